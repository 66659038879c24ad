def pX0_goToBase (u : XS) : XS := pX0_disarmAll (pX0_change (pX0_change u 0 1 0) 1 1 0)
set_option maxHeartbeats 4000000 in
set_option maxRecDepth 100000 in
theorem kX0_goToBase (l : Launch) (D : va_G) (cI cZ : ClassId) (h : Nat → Nat) (sz : Nat) (u : XS) (hI : InvX u) : Mv l yX0_goToBase wsX0_goToBase { frames := 2, cells := 0, slots := 0, locals := 45 } D (tyl cI cZ) (wX cI cZ h) sz u [.ref (h 0)] (fun u9 => u9 = pX0_goToBase u ∧ InvX u9) := by
  refine Met.ofW (cc := cX0_goToBase) (maxL := 1) (ret := none) (by decide) rfl ?_
  intro p e s m args below meth c s₁ B hml hv
  obtain ⟨rfl, hsz, hP, hK, hD0⟩ := hv
  have hx := B.exec
  have hb := B.bytes
  have hr := B.returns
  have hts := atoms_spec (ws := wsX0_goToBase) B.pre
  have hin : ∀ w ∈ wsX00, w ∈ wsX0_goToBase := fun w h9 => List.mem_cons_of_mem _ (List.mem_append_right _ h9)
  have hown : s.vm.findClass RX0 = some m.cls := findClass_of_methodNamed B.named
  have hlocks := B.notSynchronized
  subst hsz
  have hD : va_D (va_A (wX cI cZ h u) s.heap.size) (wX cI cZ h u) := hD0.self (sz := s.heap.size)
  have hA : ∀ q : Nat, s.heap.size ≤ q → va_A (wX cI cZ h u) s.heap.size q := fun q h9 => Or.inr h9
  have hS : va_S (va_A (wX cI cZ h u) s.heap.size) s.heap s.heap [] := va_S.rf
  have hl := lv_entry ([.ref (h 0)]) (n := 1) (Nat.le_of_ble_eq_true rfl)
  rw [lg_entry_eq]
  generalize (lg_sl ([.ref (h 0)]) ++ List.replicate (1 - (lg_sl ([.ref (h 0)])).length) Slot.unset).toArray = ls at hl ⊢
  have hl : lv_has ls 1 [(0, .ref (h 0))] := hl
  generalize va_A (wX cI cZ h u) s.heap.size = A at hD hA hS ⊢
  refine lv_aload_n hx hb dX0_goToBase_0 rfl (lv_at hl 0 rfl) ?_
  refine lv_iconst (v := 0) hx hb dX0_goToBase_1 (by decide) ?_
  refine lv_iconst (v := 1) hx hb dX0_goToBase_2 (by decide) ?_
  refine lv_iconst (v := 0) hx hb dX0_goToBase_3 (by decide) ?_
  have hFc := va_free (wc := wX cI cZ h u) hD hS hA [0, 1, 2, 3, 4, 5] rfl
  refine va_callv (va_runV (As := [.int 0, .int 1, .int 0]) (rest := []) ⟨hx, hb, hml, hown, hts⟩ (kX0_change l D cI cZ h s.heap.size u 0 1 0 hI bz0) (cwV 3 hts gX0_goToBase_X0_change rfl rfl rfl (by decide +kernel) ⟨Nat.le_of_ble_eq_true rfl, Nat.le_of_ble_eq_true rfl⟩) ⟨bl_W, va_recv hK hP (ci := 0) (q0 := 0) rfl rfl, pr_W hP hK hD⟩ rfl rfl hl.1 rfl (lv_room (Nat.le_of_ble_eq_true rfl)) dX0_goToBase_4 ⟨Nat.zero_le _, Nat.zero_le _⟩) hS (fun q _ h9 => hFc q h9) hFc (fun u3 t H2 locs ht hvm hw hB hz1 hk1 hS => ?_)
  obtain ⟨hP, hK, hD⟩ := af_W hB ht hvm hFc
  clear hFc hB
  obtain ⟨eu3, hIu3⟩ := hw
  refine lv_aload_n hx hb dX0_goToBase_7 rfl (lv_at hl 0 rfl) ?_
  refine lv_iconst (v := 1) hx hb dX0_goToBase_8 (by decide) ?_
  refine lv_iconst (v := 1) hx hb dX0_goToBase_9 (by decide) ?_
  refine lv_iconst (v := 0) hx hb dX0_goToBase_10 (by decide) ?_
  have hFc := va_free (wc := wX cI cZ h u3) hD hS hA [0, 1, 2, 3, 4, 5] rfl
  refine va_callv (va_runV (As := [.int 1, .int 1, .int 0]) (rest := []) ⟨hx, hb, hml, hown, hts⟩ (kX0_change l D cI cZ h H2.size u3 1 1 0 hIu3 bz1) (cwV 3 hts gX0_goToBase_X0_change rfl rfl rfl (by decide +kernel) ⟨Nat.le_of_ble_eq_true rfl, Nat.le_of_ble_eq_true rfl⟩) ⟨bl_W, va_recv hK hP (ci := 0) (q0 := 0) rfl rfl, pr_W hP hK hD⟩ rfl rfl hl.1 rfl (lv_room (Nat.le_of_ble_eq_true rfl)) dX0_goToBase_11 ⟨Nat.zero_le _, Nat.zero_le _⟩) hS (fun q _ h9 => hFc q h9) hFc (fun u6 t H5 locs ht hvm hw hB hz1 hk1 hS => ?_)
  obtain ⟨hP, hK, hD⟩ := af_W hB ht hvm hFc
  clear hFc hB
  obtain ⟨eu6, hIu6⟩ := hw
  refine lv_aload_n hx hb dX0_goToBase_14 rfl (lv_at hl 0 rfl) ?_
  have hFc := va_free (wc := wX cI cZ h u6) hD hS hA [0, 1, 2, 3, 4, 5] rfl
  refine va_callv (va_runV (As := []) (rest := []) ⟨hx, hb, hml, hown, hts⟩ (kX0_disarmAll l D cI cZ h H5.size u6  hIu6) (cwV 0 hts gX0_goToBase_X0_disarmAll rfl rfl rfl (by decide +kernel) ⟨Nat.le_of_ble_eq_true rfl, Nat.le_of_ble_eq_true rfl⟩) ⟨bl_W, va_recv hK hP (ci := 0) (q0 := 0) rfl rfl, pr_W hP hK hD⟩ rfl rfl hl.1 rfl (lv_room (Nat.le_of_ble_eq_true rfl)) dX0_goToBase_15 ⟨Nat.zero_le _, Nat.zero_le _⟩) hS (fun q _ h9 => hFc q h9) hFc (fun u9 t H8 locs ht hvm hw hB hz1 hk1 hS => ?_)
  obtain ⟨hP, hK, hD⟩ := af_W hB ht hvm hFc
  clear hFc hB
  obtain ⟨eu9, hIu9⟩ := hw
  have hq1 : pX0_goToBase u = u9 := (by subst eu9; subst eu6; subst eu3; rfl)
  exact W.vret hx hb hr (fun t ht hW => ⟨⟨u9, rfl, ⟨hq1.symm, hIu9⟩, by rw [ht]; exact hP, va_K.moved hW.alike hK, hD⟩, hS.F ht⟩) hS.2.2 dX0_goToBase_18
def pX0_turnOnIfOff (u : XS) : XS := if (pX0_isOn u) = 0 then (pX0_goToBase u) else (u)
set_option maxHeartbeats 4000000 in
set_option maxRecDepth 100000 in
theorem kX0_turnOnIfOff (l : Launch) (D : va_G) (cI cZ : ClassId) (h : Nat → Nat) (sz : Nat) (u : XS) (hI : InvX u) : Mv l yX0_turnOnIfOff wsX0_turnOnIfOff { frames := 3, cells := 0, slots := 0, locals := 65 } D (tyl cI cZ) (wX cI cZ h) sz u [.ref (h 0)] (fun u9 => u9 = pX0_turnOnIfOff u ∧ InvX u9) := by
  refine Met.ofW (cc := cX0_turnOnIfOff) (maxL := 1) (ret := none) (by decide) rfl ?_
  intro p e s m args below meth c s₁ B hml hv
  obtain ⟨rfl, hsz, hP, hK, hD0⟩ := hv
  have hx := B.exec
  have hb := B.bytes
  have hr := B.returns
  have hts := atoms_spec (ws := wsX0_turnOnIfOff) B.pre
  have hin : ∀ w ∈ wsX00, w ∈ wsX0_turnOnIfOff := fun w h9 => List.mem_cons_of_mem _ (List.mem_append_right _ h9)
  have hown : s.vm.findClass RX0 = some m.cls := findClass_of_methodNamed B.named
  have hlocks := B.notSynchronized
  subst hsz
  have hD : va_D (va_A (wX cI cZ h u) s.heap.size) (wX cI cZ h u) := hD0.self (sz := s.heap.size)
  have hA : ∀ q : Nat, s.heap.size ≤ q → va_A (wX cI cZ h u) s.heap.size q := fun q h9 => Or.inr h9
  have hS : va_S (va_A (wX cI cZ h u) s.heap.size) s.heap s.heap [] := va_S.rf
  have hl := lv_entry ([.ref (h 0)]) (n := 1) (Nat.le_of_ble_eq_true rfl)
  rw [lg_entry_eq]
  generalize (lg_sl ([.ref (h 0)]) ++ List.replicate (1 - (lg_sl ([.ref (h 0)])).length) Slot.unset).toArray = ls at hl ⊢
  have hl : lv_has ls 1 [(0, .ref (h 0))] := hl
  generalize va_A (wX cI cZ h u) s.heap.size = A at hD hA hS ⊢
  refine lv_aload_n hx hb dX0_turnOnIfOff_0 rfl (lv_at hl 0 rfl) ?_
  have hFc := va_free (wc := wX cI cZ h u) hD hS hA [0, 1, 2, 3, 4, 5] rfl
  refine va_calli (va_runV (As := []) (rest := []) ⟨hx, hb, hml, hown, hts⟩ (kX0_isOn l D cI cZ h s.heap.size u  hI) (cwV 0 hts gX0_turnOnIfOff_X0_isOn rfl rfl rfl (by decide +kernel) ⟨Nat.le_of_ble_eq_true rfl, Nat.le_of_ble_eq_true rfl⟩) ⟨bl_W, va_recv hK hP (ci := 0) (q0 := 0) rfl rfl, pr_W hP hK hD⟩ rfl rfl hl.1 rfl (lv_room (Nat.le_of_ble_eq_true rfl)) dX0_turnOnIfOff_1 ⟨Nat.zero_le _, Nat.zero_le _⟩) hS (fun q _ h9 => hFc q h9) hFc (fun r1 u3 t H2 locs ht hvm hw hB hz1 hk1 hS => ?_)
  obtain ⟨hP, hK, hD⟩ := af_W hB ht hvm hFc
  clear hFc hB
  obtain ⟨er1, eu3, br1⟩ := hw
  rw [eu3] at hP hD
  refine lv_if_ne (tgt := 11) hx hb dX0_turnOnIfOff_4 (by decide) (fun c4 => ?_) (fun c4 => ?_)
  · have hq1 : pX0_turnOnIfOff u = u := (by subst er1; unfold pX0_turnOnIfOff; first | (rw [if_neg c4]; done) | (rw [if_neg c4]; rfl))
    exact W.vret hx hb hr (fun t ht hW => ⟨⟨u, rfl, ⟨hq1.symm, hI⟩, by rw [ht]; exact hP, va_K.moved hW.alike hK, hD⟩, hS.F ht⟩) hS.2.2 dX0_turnOnIfOff_11
  · refine lv_aload_n hx hb dX0_turnOnIfOff_7 rfl (lv_at hl 0 rfl) ?_
    have hFc := va_free (wc := wX cI cZ h u) hD hS hA [0, 1, 2, 3, 4, 5] rfl
    refine va_callv (va_runV (As := []) (rest := []) ⟨hx, hb, hml, hown, hts⟩ (kX0_goToBase l D cI cZ h H2.size u  hI) (cwV 0 hts gX0_turnOnIfOff_X0_goToBase rfl rfl rfl (by decide +kernel) ⟨Nat.le_of_ble_eq_true rfl, Nat.le_of_ble_eq_true rfl⟩) ⟨bl_W, va_recv hK hP (ci := 0) (q0 := 0) rfl rfl, pr_W hP hK hD⟩ rfl rfl hl.1 rfl (lv_room (Nat.le_of_ble_eq_true rfl)) dX0_turnOnIfOff_8 ⟨Nat.zero_le _, Nat.zero_le _⟩) hS (fun q _ h9 => hFc q h9) hFc (fun u7 t H6 locs ht hvm hw hB hz1 hk1 hS => ?_)
    obtain ⟨hP, hK, hD⟩ := af_W hB ht hvm hFc
    clear hFc hB
    obtain ⟨eu7, hIu7⟩ := hw
    have hq1 : pX0_turnOnIfOff u = u7 := (by subst eu7; subst er1; unfold pX0_turnOnIfOff; first | (rw [if_pos c4]; done) | (rw [if_pos c4]; rfl))
    exact W.vret hx hb hr (fun t ht hW => ⟨⟨u7, rfl, ⟨hq1.symm, hIu7⟩, by rw [ht]; exact hP, va_K.moved hW.alike hK, hD⟩, hS.F ht⟩) hS.2.2 dX0_turnOnIfOff_11
def pX0_turnOff (u : XS) (a1 : Int32) : XS := pX0_stopFlashing (pX0_disengageWithWarning (pX0_disarmAll (pX0_change (pX0_change u 0 0 a1) 1 0 a1)))
set_option maxHeartbeats 4000000 in
set_option maxRecDepth 100000 in
theorem kX0_turnOff (l : Launch) (D : va_G) (cI cZ : ClassId) (h : Nat → Nat) (sz : Nat) (u : XS) (a1 : Int32) (hI : InvX u) : Mv l yX0_turnOff wsX0_turnOff { frames := 2, cells := 0, slots := 0, locals := 45 } D (tyl cI cZ) (wX cI cZ h) sz u [.ref (h 0), .int a1] (fun u9 => u9 = pX0_turnOff u a1 ∧ InvX u9) := by
  refine Met.ofW (cc := cX0_turnOff) (maxL := 2) (ret := none) (by decide) rfl ?_
  intro p e s m args below meth c s₁ B hml hv
  obtain ⟨rfl, hsz, hP, hK, hD0⟩ := hv
  have hx := B.exec
  have hb := B.bytes
  have hr := B.returns
  have hts := atoms_spec (ws := wsX0_turnOff) B.pre
  have hin : ∀ w ∈ wsX00, w ∈ wsX0_turnOff := fun w h9 => List.mem_cons_of_mem _ (List.mem_append_right _ h9)
  have hown : s.vm.findClass RX0 = some m.cls := findClass_of_methodNamed B.named
  have hlocks := B.notSynchronized
  subst hsz
  have hD : va_D (va_A (wX cI cZ h u) s.heap.size) (wX cI cZ h u) := hD0.self (sz := s.heap.size)
  have hA : ∀ q : Nat, s.heap.size ≤ q → va_A (wX cI cZ h u) s.heap.size q := fun q h9 => Or.inr h9
  have hS : va_S (va_A (wX cI cZ h u) s.heap.size) s.heap s.heap [] := va_S.rf
  have hl := lv_entry ([.ref (h 0), .int a1]) (n := 2) (Nat.le_of_ble_eq_true rfl)
  rw [lg_entry_eq]
  generalize (lg_sl ([.ref (h 0), .int a1]) ++ List.replicate (2 - (lg_sl ([.ref (h 0), .int a1])).length) Slot.unset).toArray = ls at hl ⊢
  have hl : lv_has ls 2 [(0, .ref (h 0)), (1, .int a1)] := hl
  generalize va_A (wX cI cZ h u) s.heap.size = A at hD hA hS ⊢
  refine lv_aload_n hx hb dX0_turnOff_0 rfl (lv_at hl 0 rfl) ?_
  refine lv_iconst (v := 0) hx hb dX0_turnOff_1 (by decide) ?_
  refine lv_iconst (v := 0) hx hb dX0_turnOff_2 (by decide) ?_
  refine lv_iload_n hx hb dX0_turnOff_3 rfl (lv_at hl 1 rfl) ?_
  have hFc := va_free (wc := wX cI cZ h u) hD hS hA [0, 1, 2, 3, 4, 5] rfl
  refine va_callv (va_runV (As := [.int 0, .int 0, .int a1]) (rest := []) ⟨hx, hb, hml, hown, hts⟩ (kX0_change l D cI cZ h s.heap.size u 0 0 a1 hI bz0) (cwV 3 hts gX0_turnOff_X0_change rfl rfl rfl (by decide +kernel) ⟨Nat.le_of_ble_eq_true rfl, Nat.le_of_ble_eq_true rfl⟩) ⟨bl_W, va_recv hK hP (ci := 0) (q0 := 0) rfl rfl, pr_W hP hK hD⟩ rfl rfl hl.1 rfl (lv_room (Nat.le_of_ble_eq_true rfl)) dX0_turnOff_4 ⟨Nat.zero_le _, Nat.zero_le _⟩) hS (fun q _ h9 => hFc q h9) hFc (fun u3 t H2 locs ht hvm hw hB hz1 hk1 hS => ?_)
  obtain ⟨hP, hK, hD⟩ := af_W hB ht hvm hFc
  clear hFc hB
  obtain ⟨eu3, hIu3⟩ := hw
  refine lv_aload_n hx hb dX0_turnOff_7 rfl (lv_at hl 0 rfl) ?_
  refine lv_iconst (v := 1) hx hb dX0_turnOff_8 (by decide) ?_
  refine lv_iconst (v := 0) hx hb dX0_turnOff_9 (by decide) ?_
  refine lv_iload_n hx hb dX0_turnOff_10 rfl (lv_at hl 1 rfl) ?_
  have hFc := va_free (wc := wX cI cZ h u3) hD hS hA [0, 1, 2, 3, 4, 5] rfl
  refine va_callv (va_runV (As := [.int 1, .int 0, .int a1]) (rest := []) ⟨hx, hb, hml, hown, hts⟩ (kX0_change l D cI cZ h H2.size u3 1 0 a1 hIu3 bz1) (cwV 3 hts gX0_turnOff_X0_change rfl rfl rfl (by decide +kernel) ⟨Nat.le_of_ble_eq_true rfl, Nat.le_of_ble_eq_true rfl⟩) ⟨bl_W, va_recv hK hP (ci := 0) (q0 := 0) rfl rfl, pr_W hP hK hD⟩ rfl rfl hl.1 rfl (lv_room (Nat.le_of_ble_eq_true rfl)) dX0_turnOff_11 ⟨Nat.zero_le _, Nat.zero_le _⟩) hS (fun q _ h9 => hFc q h9) hFc (fun u6 t H5 locs ht hvm hw hB hz1 hk1 hS => ?_)
  obtain ⟨hP, hK, hD⟩ := af_W hB ht hvm hFc
  clear hFc hB
  obtain ⟨eu6, hIu6⟩ := hw
  refine lv_aload_n hx hb dX0_turnOff_14 rfl (lv_at hl 0 rfl) ?_
  have hFc := va_free (wc := wX cI cZ h u6) hD hS hA [0, 1, 2, 3, 4, 5] rfl
  refine va_callv (va_runV (As := []) (rest := []) ⟨hx, hb, hml, hown, hts⟩ (kX0_disarmAll l D cI cZ h H5.size u6  hIu6) (cwV 0 hts gX0_turnOff_X0_disarmAll rfl rfl rfl (by decide +kernel) ⟨Nat.le_of_ble_eq_true rfl, Nat.le_of_ble_eq_true rfl⟩) ⟨bl_W, va_recv hK hP (ci := 0) (q0 := 0) rfl rfl, pr_W hP hK hD⟩ rfl rfl hl.1 rfl (lv_room (Nat.le_of_ble_eq_true rfl)) dX0_turnOff_15 ⟨Nat.zero_le _, Nat.zero_le _⟩) hS (fun q _ h9 => hFc q h9) hFc (fun u9 t H8 locs ht hvm hw hB hz1 hk1 hS => ?_)
  obtain ⟨hP, hK, hD⟩ := af_W hB ht hvm hFc
  clear hFc hB
  obtain ⟨eu9, hIu9⟩ := hw
  refine lv_aload_n hx hb dX0_turnOff_18 rfl (lv_at hl 0 rfl) ?_
  have hFc := va_free (wc := wX cI cZ h u9) hD hS hA [0, 1, 2, 3, 4, 5] rfl
  refine va_callv (va_runV (As := []) (rest := []) ⟨hx, hb, hml, hown, hts⟩ (kX0_disengageWithWarning l D cI cZ h H8.size u9  hIu9) (cwV 0 hts gX0_turnOff_X0_disengageWithWarning rfl rfl rfl (by decide +kernel) ⟨Nat.le_of_ble_eq_true rfl, Nat.le_of_ble_eq_true rfl⟩) ⟨bl_W, va_recv hK hP (ci := 0) (q0 := 0) rfl rfl, pr_W hP hK hD⟩ rfl rfl hl.1 rfl (lv_room (Nat.le_of_ble_eq_true rfl)) dX0_turnOff_19 ⟨Nat.zero_le _, Nat.zero_le _⟩) hS (fun q _ h9 => hFc q h9) hFc (fun u12 t H11 locs ht hvm hw hB hz1 hk1 hS => ?_)
  obtain ⟨hP, hK, hD⟩ := af_W hB ht hvm hFc
  clear hFc hB
  obtain ⟨eu12, hIu12⟩ := hw
  refine lv_aload_n hx hb dX0_turnOff_22 rfl (lv_at hl 0 rfl) ?_
  have hFc := va_free (wc := wX cI cZ h u12) hD hS hA [0, 1, 2, 3, 4, 5] rfl
  refine va_callv (va_runV (As := []) (rest := []) ⟨hx, hb, hml, hown, hts⟩ (kX0_stopFlashing l D cI cZ h H11.size u12  hIu12) (cwV 0 hts gX0_turnOff_X0_stopFlashing rfl rfl rfl (by decide +kernel) ⟨Nat.le_of_ble_eq_true rfl, Nat.le_of_ble_eq_true rfl⟩) ⟨bl_W, va_recv hK hP (ci := 0) (q0 := 0) rfl rfl, pr_W hP hK hD⟩ rfl rfl hl.1 rfl (lv_room (Nat.le_of_ble_eq_true rfl)) dX0_turnOff_23 ⟨Nat.zero_le _, Nat.zero_le _⟩) hS (fun q _ h9 => hFc q h9) hFc (fun u15 t H14 locs ht hvm hw hB hz1 hk1 hS => ?_)
  obtain ⟨hP, hK, hD⟩ := af_W hB ht hvm hFc
  clear hFc hB
  obtain ⟨eu15, hIu15⟩ := hw
  have hq1 : pX0_turnOff u a1 = u15 := (by subst eu15; subst eu12; subst eu9; subst eu6; subst eu3; rfl)
  exact W.vret hx hb hr (fun t ht hW => ⟨⟨u15, rfl, ⟨hq1.symm, hIu15⟩, by rw [ht]; exact hP, va_K.moved hW.alike hK, hD⟩, hS.F ht⟩) hS.2.2 dX0_turnOff_26
def pX0_leaveCourseFor (u : XS) (a1 a2 : Int32) : XS := if (xA (pX0_change u 0 a1 a2) (Int32.toNatClampNeg 1)) = 6 then (if (xa (pX0_change (pX0_change u 0 a1 a2) 1 1 a2)) = 0 then (xg_ (pX0_change (pX0_change u 0 a1 a2) 1 1 a2) 0) else (pX0_change (pX0_change u 0 a1 a2) 1 1 a2)) else (if (xa (pX0_change u 0 a1 a2)) = 0 then (xg_ (pX0_change u 0 a1 a2) 0) else (pX0_change u 0 a1 a2))
set_option maxHeartbeats 4000000 in
set_option maxRecDepth 100000 in
theorem kX0_leaveCourseFor (l : Launch) (D : va_G) (cI cZ : ClassId) (h : Nat → Nat) (sz : Nat) (u : XS) (a1 a2 : Int32) (hI : InvX u) : Mv l yX0_leaveCourseFor wsX0_leaveCourseFor { frames := 2, cells := 0, slots := 0, locals := 45 } D (tyl cI cZ) (wX cI cZ h) sz u [.ref (h 0), .int a1, .int a2] (fun u9 => u9 = pX0_leaveCourseFor u a1 a2 ∧ InvX u9) := by
  refine Met.ofW (cc := cX0_leaveCourseFor) (maxL := 3) (ret := none) (by decide) rfl ?_
  intro p e s m args below meth c s₁ B hml hv
  obtain ⟨rfl, hsz, hP, hK, hD0⟩ := hv
  have hx := B.exec
  have hb := B.bytes
  have hr := B.returns
  have hts := atoms_spec (ws := wsX0_leaveCourseFor) B.pre
  have hin : ∀ w ∈ wsX00, w ∈ wsX0_leaveCourseFor := fun w h9 => List.mem_cons_of_mem _ (List.mem_append_right _ h9)
  have hown : s.vm.findClass RX0 = some m.cls := findClass_of_methodNamed B.named
  have hlocks := B.notSynchronized
  subst hsz
  have hD : va_D (va_A (wX cI cZ h u) s.heap.size) (wX cI cZ h u) := hD0.self (sz := s.heap.size)
  have hA : ∀ q : Nat, s.heap.size ≤ q → va_A (wX cI cZ h u) s.heap.size q := fun q h9 => Or.inr h9
  have hS : va_S (va_A (wX cI cZ h u) s.heap.size) s.heap s.heap [] := va_S.rf
  have hl := lv_entry ([.ref (h 0), .int a1, .int a2]) (n := 3) (Nat.le_of_ble_eq_true rfl)
  rw [lg_entry_eq]
  generalize (lg_sl ([.ref (h 0), .int a1, .int a2]) ++ List.replicate (3 - (lg_sl ([.ref (h 0), .int a1, .int a2])).length) Slot.unset).toArray = ls at hl ⊢
  have hl : lv_has ls 3 [(0, .ref (h 0)), (1, .int a1), (2, .int a2)] := hl
  generalize va_A (wX cI cZ h u) s.heap.size = A at hD hA hS ⊢
  refine lv_aload_n hx hb dX0_leaveCourseFor_0 rfl (lv_at hl 0 rfl) ?_
  refine lv_iconst (v := 0) hx hb dX0_leaveCourseFor_1 (by decide) ?_
  refine lv_iload_n hx hb dX0_leaveCourseFor_2 rfl (lv_at hl 1 rfl) ?_
  refine lv_iload_n hx hb dX0_leaveCourseFor_3 rfl (lv_at hl 2 rfl) ?_
  have hFc := va_free (wc := wX cI cZ h u) hD hS hA [0, 1, 2, 3, 4, 5] rfl
  refine va_callv (va_runV (As := [.int 0, .int a1, .int a2]) (rest := []) ⟨hx, hb, hml, hown, hts⟩ (kX0_change l D cI cZ h s.heap.size u 0 a1 a2 hI bz0) (cwV 3 hts gX0_leaveCourseFor_X0_change rfl rfl rfl (by decide +kernel) ⟨Nat.le_of_ble_eq_true rfl, Nat.le_of_ble_eq_true rfl⟩) ⟨bl_W, va_recv hK hP (ci := 0) (q0 := 0) rfl rfl, pr_W hP hK hD⟩ rfl rfl hl.1 rfl (lv_room (Nat.le_of_ble_eq_true rfl)) dX0_leaveCourseFor_4 ⟨Nat.zero_le _, Nat.zero_le _⟩) hS (fun q _ h9 => hFc q h9) hFc (fun u3 t H2 locs ht hvm hw hB hz1 hk1 hS => ?_)
  obtain ⟨hP, hK, hD⟩ := af_W hB ht hvm hFc
  clear hFc hB
  obtain ⟨eu3, hIu3⟩ := hw
  refine lv_aload_n hx hb dX0_leaveCourseFor_7 rfl (lv_at hl 0 rfl) ?_
  refine va_get (D := D) (ci := 0) (v := .ref (h 1)) (C := RX0) (T := TX0) (N := 12) hx hb hts hin hown hK hP 0 rfl rfl 0 (by decide) (hts (.fieldLink RX0 7 "ModeDesk" "active" "[I") (by decide +kernel)) (fun _ h9 => h9) rfl dX0_leaveCourseFor_8 ?_
  refine lv_iconst (v := 1) hx hb dX0_leaveCourseFor_11 (by decide) ?_
  refine va_iald hx hb hK hP 1 0 rfl rfl (vi_c (by decide)) dX0_leaveCourseFor_12 ?_
  refine lv_bipush (v := 6) hx hb dX0_leaveCourseFor_13 (by decide) ?_
  refine lv_icmp_ne (tgt := 25) hx hb dX0_leaveCourseFor_15 (by decide) (fun c4 => ?_) (fun c4 => ?_)
  · refine lv_aload_n hx hb dX0_leaveCourseFor_25 rfl (lv_at hl 0 rfl) ?_
    refine va_get (D := D) (ci := 0) (v := .int (xa u3)) (C := RX0) (T := TX0) (N := 12) hx hb hts hin hown hK hP 0 rfl rfl 6 (by decide) (hts (.fieldLink RX0 93 "ModeDesk" "approachArmed" "Z") (by decide +kernel)) (fun _ h9 => h9) rfl dX0_leaveCourseFor_26 ?_
    refine lv_if_ne (tgt := 37) hx hb dX0_leaveCourseFor_29 (by decide) (fun c5 => ?_) (fun c5 => ?_)
    · have hq1 : pX0_leaveCourseFor u a1 a2 = u3 := (by subst eu3; unfold pX0_leaveCourseFor; first | (rw [if_neg c4, if_neg c5]; done) | (rw [if_neg c4, if_neg c5]; rfl))
      exact W.vret hx hb hr (fun t ht hW => ⟨⟨u3, rfl, ⟨hq1.symm, hIu3⟩, by rw [ht]; exact hP, va_K.moved hW.alike hK, hD⟩, hS.F ht⟩) hS.2.2 dX0_leaveCourseFor_37
    · refine lv_aload_n hx hb dX0_leaveCourseFor_32 rfl (lv_at hl 0 rfl) ?_
      refine lv_iconst (v := 0) hx hb dX0_leaveCourseFor_33 (by decide) ?_
      refine va_put (D := D) (ci := 0) (v := .int 0) (ty := .boolean) (C := RX0) (T := TX0) (N := 12) hx hb hts hin tyX0 tyX0_ok nmX0 hown hK hP hD hS 0 rfl rfl 7 (by decide) (hts (.fieldLink RX0 96 "ModeDesk" "glideArmed" "Z") (by decide +kernel)) (fun _ h9 => h9) rfl (by decide +kernel) (bz_n bz0) (bz_f bz0) (Nat.le_of_ble_eq_true rfl) dX0_leaveCourseFor_34 (fun H7 locs hP hD hS => ?_)
      obtain ⟨u6, eu6⟩ : ∃ y : XS, y = xg_ u3 0 := ⟨_, rfl⟩
      have hP : va_P D vwCl (wX cI cZ h u6) H7 := by rw [eu6]; exact hP
      have hD : va_D A (wX cI cZ h u6) := by rw [eu6]; exact hD
      have hIu6 : InvX u6 := by rw [eu6]; exact InvX.sg hIu3 bz0
      have hq1 : pX0_leaveCourseFor u a1 a2 = u6 := (by subst eu6; subst eu3; unfold pX0_leaveCourseFor; first | (rw [if_neg c4, if_pos c5]; done) | (rw [if_neg c4, if_pos c5]; rfl))
      exact W.vret hx hb hr (fun t ht hW => ⟨⟨u6, rfl, ⟨hq1.symm, hIu6⟩, by rw [ht]; exact hP, va_K.moved hW.alike hK, hD⟩, hS.F ht⟩) hS.2.2 dX0_leaveCourseFor_37
  · refine lv_aload_n hx hb dX0_leaveCourseFor_18 rfl (lv_at hl 0 rfl) ?_
    refine lv_iconst (v := 1) hx hb dX0_leaveCourseFor_19 (by decide) ?_
    refine lv_iconst (v := 1) hx hb dX0_leaveCourseFor_20 (by decide) ?_
    refine lv_iload_n hx hb dX0_leaveCourseFor_21 rfl (lv_at hl 2 rfl) ?_
    have hFc := va_free (wc := wX cI cZ h u3) hD hS hA [0, 1, 2, 3, 4, 5] rfl
    refine va_callv (va_runV (As := [.int 1, .int 1, .int a2]) (rest := []) ⟨hx, hb, hml, hown, hts⟩ (kX0_change l D cI cZ h H2.size u3 1 1 a2 hIu3 bz1) (cwV 3 hts gX0_leaveCourseFor_X0_change rfl rfl rfl (by decide +kernel) ⟨Nat.le_of_ble_eq_true rfl, Nat.le_of_ble_eq_true rfl⟩) ⟨bl_W, va_recv hK hP (ci := 0) (q0 := 0) rfl rfl, pr_W hP hK hD⟩ rfl rfl hl.1 rfl (lv_room (Nat.le_of_ble_eq_true rfl)) dX0_leaveCourseFor_22 ⟨Nat.zero_le _, Nat.zero_le _⟩) hS (fun q _ h9 => hFc q h9) hFc (fun u10 t H9 locs ht hvm hw hB hz1 hk1 hS => ?_)
    obtain ⟨hP, hK, hD⟩ := af_W hB ht hvm hFc
    clear hFc hB
    obtain ⟨eu10, hIu10⟩ := hw
    refine lv_aload_n hx hb dX0_leaveCourseFor_25 rfl (lv_at hl 0 rfl) ?_
    refine va_get (D := D) (ci := 0) (v := .int (xa u10)) (C := RX0) (T := TX0) (N := 12) hx hb hts hin hown hK hP 0 rfl rfl 6 (by decide) (hts (.fieldLink RX0 93 "ModeDesk" "approachArmed" "Z") (by decide +kernel)) (fun _ h9 => h9) rfl dX0_leaveCourseFor_26 ?_
    refine lv_if_ne (tgt := 37) hx hb dX0_leaveCourseFor_29 (by decide) (fun c11 => ?_) (fun c11 => ?_)
    · have hq1 : pX0_leaveCourseFor u a1 a2 = u10 := (by subst eu10; subst eu3; unfold pX0_leaveCourseFor; first | (rw [if_pos c4, if_neg c11]; done) | (rw [if_pos c4, if_neg c11]; rfl))
      exact W.vret hx hb hr (fun t ht hW => ⟨⟨u10, rfl, ⟨hq1.symm, hIu10⟩, by rw [ht]; exact hP, va_K.moved hW.alike hK, hD⟩, hS.F ht⟩) hS.2.2 dX0_leaveCourseFor_37
    · refine lv_aload_n hx hb dX0_leaveCourseFor_32 rfl (lv_at hl 0 rfl) ?_
      refine lv_iconst (v := 0) hx hb dX0_leaveCourseFor_33 (by decide) ?_
      refine va_put (D := D) (ci := 0) (v := .int 0) (ty := .boolean) (C := RX0) (T := TX0) (N := 12) hx hb hts hin tyX0 tyX0_ok nmX0 hown hK hP hD hS 0 rfl rfl 7 (by decide) (hts (.fieldLink RX0 96 "ModeDesk" "glideArmed" "Z") (by decide +kernel)) (fun _ h9 => h9) rfl (by decide +kernel) (bz_n bz0) (bz_f bz0) (Nat.le_of_ble_eq_true rfl) dX0_leaveCourseFor_34 (fun H13 locs hP hD hS => ?_)
      obtain ⟨u12, eu12⟩ : ∃ y : XS, y = xg_ u10 0 := ⟨_, rfl⟩
      have hP : va_P D vwCl (wX cI cZ h u12) H13 := by rw [eu12]; exact hP
      have hD : va_D A (wX cI cZ h u12) := by rw [eu12]; exact hD
      have hIu12 : InvX u12 := by rw [eu12]; exact InvX.sg hIu10 bz0
      have hq1 : pX0_leaveCourseFor u a1 a2 = u12 := (by subst eu12; subst eu10; subst eu3; unfold pX0_leaveCourseFor; first | (rw [if_pos c4, if_pos c11]; done) | (rw [if_pos c4, if_pos c11]; rfl))
      exact W.vret hx hb hr (fun t ht hW => ⟨⟨u12, rfl, ⟨hq1.symm, hIu12⟩, by rw [ht]; exact hP, va_K.moved hW.alike hK, hD⟩, hS.F ht⟩) hS.2.2 dX0_leaveCourseFor_37
def pX0_obeyHeading (u : XS) : XS := if (xA u (Int32.toNatClampNeg 0)) = 2 then (pX0_change u 0 1 0) else (pX0_leaveCourseFor u 2 0)
set_option maxHeartbeats 4000000 in
set_option maxRecDepth 100000 in
theorem kX0_obeyHeading (l : Launch) (D : va_G) (cI cZ : ClassId) (h : Nat → Nat) (sz : Nat) (u : XS) (hI : InvX u) : Mv l yX0_obeyHeading wsX0_obeyHeading { frames := 3, cells := 0, slots := 0, locals := 67 } D (tyl cI cZ) (wX cI cZ h) sz u [.ref (h 0)] (fun u9 => u9 = pX0_obeyHeading u ∧ InvX u9) := by
  refine Met.ofW (cc := cX0_obeyHeading) (maxL := 1) (ret := none) (by decide) rfl ?_
  intro p e s m args below meth c s₁ B hml hv
  obtain ⟨rfl, hsz, hP, hK, hD0⟩ := hv
  have hx := B.exec
  have hb := B.bytes
  have hr := B.returns
  have hts := atoms_spec (ws := wsX0_obeyHeading) B.pre
  have hin : ∀ w ∈ wsX00, w ∈ wsX0_obeyHeading := fun w h9 => List.mem_cons_of_mem _ (List.mem_append_right _ h9)
  have hown : s.vm.findClass RX0 = some m.cls := findClass_of_methodNamed B.named
  have hlocks := B.notSynchronized
  subst hsz
  have hD : va_D (va_A (wX cI cZ h u) s.heap.size) (wX cI cZ h u) := hD0.self (sz := s.heap.size)
  have hA : ∀ q : Nat, s.heap.size ≤ q → va_A (wX cI cZ h u) s.heap.size q := fun q h9 => Or.inr h9
  have hS : va_S (va_A (wX cI cZ h u) s.heap.size) s.heap s.heap [] := va_S.rf
  have hl := lv_entry ([.ref (h 0)]) (n := 1) (Nat.le_of_ble_eq_true rfl)
  rw [lg_entry_eq]
  generalize (lg_sl ([.ref (h 0)]) ++ List.replicate (1 - (lg_sl ([.ref (h 0)])).length) Slot.unset).toArray = ls at hl ⊢
  have hl : lv_has ls 1 [(0, .ref (h 0))] := hl
  generalize va_A (wX cI cZ h u) s.heap.size = A at hD hA hS ⊢
  refine lv_aload_n hx hb dX0_obeyHeading_0 rfl (lv_at hl 0 rfl) ?_
  refine va_get (D := D) (ci := 0) (v := .ref (h 1)) (C := RX0) (T := TX0) (N := 12) hx hb hts hin hown hK hP 0 rfl rfl 0 (by decide) (hts (.fieldLink RX0 7 "ModeDesk" "active" "[I") (by decide +kernel)) (fun _ h9 => h9) rfl dX0_obeyHeading_1 ?_
  refine lv_iconst (v := 0) hx hb dX0_obeyHeading_4 (by decide) ?_
  refine va_iald hx hb hK hP 1 0 rfl rfl (vi_c (by decide)) dX0_obeyHeading_5 ?_
  refine lv_iconst (v := 2) hx hb dX0_obeyHeading_6 (by decide) ?_
  refine lv_icmp_ne (tgt := 20) hx hb dX0_obeyHeading_7 (by decide) (fun c1 => ?_) (fun c1 => ?_)
  · refine lv_aload_n hx hb dX0_obeyHeading_20 rfl (lv_at hl 0 rfl) ?_
    refine lv_iconst (v := 2) hx hb dX0_obeyHeading_21 (by decide) ?_
    refine lv_iconst (v := 0) hx hb dX0_obeyHeading_22 (by decide) ?_
    have hFc := va_free (wc := wX cI cZ h u) hD hS hA [0, 1, 2, 3, 4, 5] rfl
    refine va_callv (va_runV (As := [.int 2, .int 0]) (rest := []) ⟨hx, hb, hml, hown, hts⟩ (kX0_leaveCourseFor l D cI cZ h s.heap.size u 2 0 hI) (cwV 2 hts gX0_obeyHeading_X0_leaveCourseFor rfl rfl rfl (by decide +kernel) ⟨Nat.le_of_ble_eq_true rfl, Nat.le_of_ble_eq_true rfl⟩) ⟨bl_W, va_recv hK hP (ci := 0) (q0 := 0) rfl rfl, pr_W hP hK hD⟩ rfl rfl hl.1 rfl (lv_room (Nat.le_of_ble_eq_true rfl)) dX0_obeyHeading_23 ⟨Nat.zero_le _, Nat.zero_le _⟩) hS (fun q _ h9 => hFc q h9) hFc (fun u4 t H3 locs ht hvm hw hB hz1 hk1 hS => ?_)
    obtain ⟨hP, hK, hD⟩ := af_W hB ht hvm hFc
    clear hFc hB
    obtain ⟨eu4, hIu4⟩ := hw
    have hq1 : pX0_obeyHeading u = u4 := (by subst eu4; unfold pX0_obeyHeading; first | (rw [if_neg c1]; done) | (rw [if_neg c1]; rfl))
    exact W.vret hx hb hr (fun t ht hW => ⟨⟨u4, rfl, ⟨hq1.symm, hIu4⟩, by rw [ht]; exact hP, va_K.moved hW.alike hK, hD⟩, hS.F ht⟩) hS.2.2 dX0_obeyHeading_26
  · refine lv_aload_n hx hb dX0_obeyHeading_10 rfl (lv_at hl 0 rfl) ?_
    refine lv_iconst (v := 0) hx hb dX0_obeyHeading_11 (by decide) ?_
    refine lv_iconst (v := 1) hx hb dX0_obeyHeading_12 (by decide) ?_
    refine lv_iconst (v := 0) hx hb dX0_obeyHeading_13 (by decide) ?_
    have hFc := va_free (wc := wX cI cZ h u) hD hS hA [0, 1, 2, 3, 4, 5] rfl
    refine va_callv (va_runV (As := [.int 0, .int 1, .int 0]) (rest := []) ⟨hx, hb, hml, hown, hts⟩ (kX0_change l D cI cZ h s.heap.size u 0 1 0 hI bz0) (cwV 3 hts gX0_obeyHeading_X0_change rfl rfl rfl (by decide +kernel) ⟨Nat.le_of_ble_eq_true rfl, Nat.le_of_ble_eq_true rfl⟩) ⟨bl_W, va_recv hK hP (ci := 0) (q0 := 0) rfl rfl, pr_W hP hK hD⟩ rfl rfl hl.1 rfl (lv_room (Nat.le_of_ble_eq_true rfl)) dX0_obeyHeading_14 ⟨Nat.zero_le _, Nat.zero_le _⟩) hS (fun q _ h9 => hFc q h9) hFc (fun u7 t H6 locs ht hvm hw hB hz1 hk1 hS => ?_)
    obtain ⟨hP, hK, hD⟩ := af_W hB ht hvm hFc
    clear hFc hB
    obtain ⟨eu7, hIu7⟩ := hw
    refine lv_goto (tgt := 26) hx hb dX0_obeyHeading_17 (by decide) ?_
    have hq1 : pX0_obeyHeading u = u7 := (by subst eu7; unfold pX0_obeyHeading; first | (rw [if_pos c1]; done) | (rw [if_pos c1]; rfl))
    exact W.vret hx hb hr (fun t ht hW => ⟨⟨u7, rfl, ⟨hq1.symm, hIu7⟩, by rw [ht]; exact hP, va_K.moved hW.alike hK, hD⟩, hS.F ht⟩) hS.2.2 dX0_obeyHeading_26
def pX0_obeyNav (u : XS) : XS := if (xA u (Int32.toNatClampNeg 0)) = 4 then (u) else (if (xA u (Int32.toNatClampNeg 0)) = 3 then (pX0_change u 0 1 0) else (if (xn u) = 0 then (xg_ (xa_ (xn_ u 1) 0) 0) else (xn_ u 0)))
set_option maxHeartbeats 4000000 in
set_option maxRecDepth 100000 in
theorem kX0_obeyNav (l : Launch) (D : va_G) (cI cZ : ClassId) (h : Nat → Nat) (sz : Nat) (u : XS) (hI : InvX u) : Mv l yX0_obeyNav wsX0_obeyNav { frames := 2, cells := 0, slots := 0, locals := 45 } D (tyl cI cZ) (wX cI cZ h) sz u [.ref (h 0)] (fun u9 => u9 = pX0_obeyNav u ∧ InvX u9) := by
  refine Met.ofW (cc := cX0_obeyNav) (maxL := 1) (ret := none) (by decide) rfl ?_
  intro p e s m args below meth c s₁ B hml hv
  obtain ⟨rfl, hsz, hP, hK, hD0⟩ := hv
  have hx := B.exec
  have hb := B.bytes
  have hr := B.returns
  have hts := atoms_spec (ws := wsX0_obeyNav) B.pre
  have hin : ∀ w ∈ wsX00, w ∈ wsX0_obeyNav := fun w h9 => List.mem_cons_of_mem _ (List.mem_append_right _ h9)
  have hown : s.vm.findClass RX0 = some m.cls := findClass_of_methodNamed B.named
  have hlocks := B.notSynchronized
  subst hsz
  have hD : va_D (va_A (wX cI cZ h u) s.heap.size) (wX cI cZ h u) := hD0.self (sz := s.heap.size)
  have hA : ∀ q : Nat, s.heap.size ≤ q → va_A (wX cI cZ h u) s.heap.size q := fun q h9 => Or.inr h9
  have hS : va_S (va_A (wX cI cZ h u) s.heap.size) s.heap s.heap [] := va_S.rf
  have hl := lv_entry ([.ref (h 0)]) (n := 1) (Nat.le_of_ble_eq_true rfl)
  rw [lg_entry_eq]
  generalize (lg_sl ([.ref (h 0)]) ++ List.replicate (1 - (lg_sl ([.ref (h 0)])).length) Slot.unset).toArray = ls at hl ⊢
  have hl : lv_has ls 1 [(0, .ref (h 0))] := hl
  generalize va_A (wX cI cZ h u) s.heap.size = A at hD hA hS ⊢
  refine lv_aload_n hx hb dX0_obeyNav_0 rfl (lv_at hl 0 rfl) ?_
  refine va_get (D := D) (ci := 0) (v := .ref (h 1)) (C := RX0) (T := TX0) (N := 12) hx hb hts hin hown hK hP 0 rfl rfl 0 (by decide) (hts (.fieldLink RX0 7 "ModeDesk" "active" "[I") (by decide +kernel)) (fun _ h9 => h9) rfl dX0_obeyNav_1 ?_
  refine lv_iconst (v := 0) hx hb dX0_obeyNav_4 (by decide) ?_
  refine va_iald hx hb hK hP 1 0 rfl rfl (vi_c (by decide)) dX0_obeyNav_5 ?_
  refine lv_iconst (v := 4) hx hb dX0_obeyNav_6 (by decide) ?_
  refine lv_icmp_ne (tgt := 11) hx hb dX0_obeyNav_7 (by decide) (fun c1 => ?_) (fun c1 => ?_)
  · refine lv_aload_n hx hb dX0_obeyNav_11 rfl (lv_at hl 0 rfl) ?_
    refine va_get (D := D) (ci := 0) (v := .ref (h 1)) (C := RX0) (T := TX0) (N := 12) hx hb hts hin hown hK hP 0 rfl rfl 0 (by decide) (hts (.fieldLink RX0 7 "ModeDesk" "active" "[I") (by decide +kernel)) (fun _ h9 => h9) rfl dX0_obeyNav_12 ?_
    refine lv_iconst (v := 0) hx hb dX0_obeyNav_15 (by decide) ?_
    refine va_iald hx hb hK hP 1 0 rfl rfl (vi_c (by decide)) dX0_obeyNav_16 ?_
    refine lv_iconst (v := 3) hx hb dX0_obeyNav_17 (by decide) ?_
    refine lv_icmp_ne (tgt := 31) hx hb dX0_obeyNav_18 (by decide) (fun c2 => ?_) (fun c2 => ?_)
    · refine lv_aload_n hx hb dX0_obeyNav_31 rfl (lv_at hl 0 rfl) ?_
      refine va_get (D := D) (ci := 0) (v := .int (xn u)) (C := RX0) (T := TX0) (N := 12) hx hb hts hin hown hK hP 0 rfl rfl 5 (by decide) (hts (.fieldLink RX0 90 "ModeDesk" "navArmed" "Z") (by decide +kernel)) (fun _ h9 => h9) rfl dX0_obeyNav_32 ?_
      refine lv_if_eq (tgt := 46) hx hb dX0_obeyNav_35 (by decide) (fun c3 => ?_) (fun c3 => ?_)
      · refine lv_aload_n hx hb dX0_obeyNav_46 rfl (lv_at hl 0 rfl) ?_
        refine lv_iconst (v := 1) hx hb dX0_obeyNav_47 (by decide) ?_
        refine va_put (D := D) (ci := 0) (v := .int 1) (ty := .boolean) (C := RX0) (T := TX0) (N := 12) hx hb hts hin tyX0 tyX0_ok nmX0 hown hK hP hD hS 0 rfl rfl 5 (by decide) (hts (.fieldLink RX0 90 "ModeDesk" "navArmed" "Z") (by decide +kernel)) (fun _ h9 => h9) rfl (by decide +kernel) (bz_n bz1) (bz_f bz1) (Nat.le_of_ble_eq_true rfl) dX0_obeyNav_48 (fun H5 locs hP hD hS => ?_)
        obtain ⟨u4, eu4⟩ : ∃ y : XS, y = xn_ u 1 := ⟨_, rfl⟩
        have hP : va_P D vwCl (wX cI cZ h u4) H5 := by rw [eu4]; exact hP
        have hD : va_D A (wX cI cZ h u4) := by rw [eu4]; exact hD
        have hIu4 : InvX u4 := by rw [eu4]; exact InvX.sn hI bz1
        refine lv_aload_n hx hb dX0_obeyNav_51 rfl (lv_at hl 0 rfl) ?_
        refine lv_iconst (v := 0) hx hb dX0_obeyNav_52 (by decide) ?_
        refine va_put (D := D) (ci := 0) (v := .int 0) (ty := .boolean) (C := RX0) (T := TX0) (N := 12) hx hb hts hin tyX0 tyX0_ok nmX0 hown hK hP hD hS 0 rfl rfl 6 (by decide) (hts (.fieldLink RX0 93 "ModeDesk" "approachArmed" "Z") (by decide +kernel)) (fun _ h9 => h9) rfl (by decide +kernel) (bz_n bz0) (bz_f bz0) (Nat.le_of_ble_eq_true rfl) dX0_obeyNav_53 (fun H7 locs hP hD hS => ?_)
        obtain ⟨u6, eu6⟩ : ∃ y : XS, y = xa_ u4 0 := ⟨_, rfl⟩
        have hP : va_P D vwCl (wX cI cZ h u6) H7 := by rw [eu6]; exact hP
        have hD : va_D A (wX cI cZ h u6) := by rw [eu6]; exact hD
        have hIu6 : InvX u6 := by rw [eu6]; exact InvX.sa hIu4 bz0
        refine lv_aload_n hx hb dX0_obeyNav_56 rfl (lv_at hl 0 rfl) ?_
        refine lv_iconst (v := 0) hx hb dX0_obeyNav_57 (by decide) ?_
        refine va_put (D := D) (ci := 0) (v := .int 0) (ty := .boolean) (C := RX0) (T := TX0) (N := 12) hx hb hts hin tyX0 tyX0_ok nmX0 hown hK hP hD hS 0 rfl rfl 7 (by decide) (hts (.fieldLink RX0 96 "ModeDesk" "glideArmed" "Z") (by decide +kernel)) (fun _ h9 => h9) rfl (by decide +kernel) (bz_n bz0) (bz_f bz0) (Nat.le_of_ble_eq_true rfl) dX0_obeyNav_58 (fun H9 locs hP hD hS => ?_)
        obtain ⟨u8, eu8⟩ : ∃ y : XS, y = xg_ u6 0 := ⟨_, rfl⟩
        have hP : va_P D vwCl (wX cI cZ h u8) H9 := by rw [eu8]; exact hP
        have hD : va_D A (wX cI cZ h u8) := by rw [eu8]; exact hD
        have hIu8 : InvX u8 := by rw [eu8]; exact InvX.sg hIu6 bz0
        have hq1 : pX0_obeyNav u = u8 := (by subst eu8; subst eu6; subst eu4; unfold pX0_obeyNav; first | (rw [if_neg c1, if_neg c2, if_pos c3]; done) | (rw [if_neg c1, if_neg c2, if_pos c3]; rfl))
        exact W.vret hx hb hr (fun t ht hW => ⟨⟨u8, rfl, ⟨hq1.symm, hIu8⟩, by rw [ht]; exact hP, va_K.moved hW.alike hK, hD⟩, hS.F ht⟩) hS.2.2 dX0_obeyNav_61
      · refine lv_aload_n hx hb dX0_obeyNav_38 rfl (lv_at hl 0 rfl) ?_
        refine lv_iconst (v := 0) hx hb dX0_obeyNav_39 (by decide) ?_
        refine va_put (D := D) (ci := 0) (v := .int 0) (ty := .boolean) (C := RX0) (T := TX0) (N := 12) hx hb hts hin tyX0 tyX0_ok nmX0 hown hK hP hD hS 0 rfl rfl 5 (by decide) (hts (.fieldLink RX0 90 "ModeDesk" "navArmed" "Z") (by decide +kernel)) (fun _ h9 => h9) rfl (by decide +kernel) (bz_n bz0) (bz_f bz0) (Nat.le_of_ble_eq_true rfl) dX0_obeyNav_40 (fun H11 locs hP hD hS => ?_)
        obtain ⟨u10, eu10⟩ : ∃ y : XS, y = xn_ u 0 := ⟨_, rfl⟩
        have hP : va_P D vwCl (wX cI cZ h u10) H11 := by rw [eu10]; exact hP
        have hD : va_D A (wX cI cZ h u10) := by rw [eu10]; exact hD
        have hIu10 : InvX u10 := by rw [eu10]; exact InvX.sn hI bz0
        refine lv_goto (tgt := 61) hx hb dX0_obeyNav_43 (by decide) ?_
        have hq1 : pX0_obeyNav u = u10 := (by subst eu10; unfold pX0_obeyNav; first | (rw [if_neg c1, if_neg c2, if_neg c3]; done) | (rw [if_neg c1, if_neg c2, if_neg c3]; rfl))
        exact W.vret hx hb hr (fun t ht hW => ⟨⟨u10, rfl, ⟨hq1.symm, hIu10⟩, by rw [ht]; exact hP, va_K.moved hW.alike hK, hD⟩, hS.F ht⟩) hS.2.2 dX0_obeyNav_61
    · refine lv_aload_n hx hb dX0_obeyNav_21 rfl (lv_at hl 0 rfl) ?_
      refine lv_iconst (v := 0) hx hb dX0_obeyNav_22 (by decide) ?_
      refine lv_iconst (v := 1) hx hb dX0_obeyNav_23 (by decide) ?_
      refine lv_iconst (v := 0) hx hb dX0_obeyNav_24 (by decide) ?_
      have hFc := va_free (wc := wX cI cZ h u) hD hS hA [0, 1, 2, 3, 4, 5] rfl
      refine va_callv (va_runV (As := [.int 0, .int 1, .int 0]) (rest := []) ⟨hx, hb, hml, hown, hts⟩ (kX0_change l D cI cZ h s.heap.size u 0 1 0 hI bz0) (cwV 3 hts gX0_obeyNav_X0_change rfl rfl rfl (by decide +kernel) ⟨Nat.le_of_ble_eq_true rfl, Nat.le_of_ble_eq_true rfl⟩) ⟨bl_W, va_recv hK hP (ci := 0) (q0 := 0) rfl rfl, pr_W hP hK hD⟩ rfl rfl hl.1 rfl (lv_room (Nat.le_of_ble_eq_true rfl)) dX0_obeyNav_25 ⟨Nat.zero_le _, Nat.zero_le _⟩) hS (fun q _ h9 => hFc q h9) hFc (fun u14 t H13 locs ht hvm hw hB hz1 hk1 hS => ?_)
      obtain ⟨hP, hK, hD⟩ := af_W hB ht hvm hFc
      clear hFc hB
      obtain ⟨eu14, hIu14⟩ := hw
      refine lv_goto (tgt := 61) hx hb dX0_obeyNav_28 (by decide) ?_
      have hq1 : pX0_obeyNav u = u14 := (by subst eu14; unfold pX0_obeyNav; first | (rw [if_neg c1, if_pos c2]; done) | (rw [if_neg c1, if_pos c2]; rfl))
      exact W.vret hx hb hr (fun t ht hW => ⟨⟨u14, rfl, ⟨hq1.symm, hIu14⟩, by rw [ht]; exact hP, va_K.moved hW.alike hK, hD⟩, hS.F ht⟩) hS.2.2 dX0_obeyNav_61
  · have hq1 : pX0_obeyNav u = u := (by unfold pX0_obeyNav; first | (rw [if_pos c1]; done) | (rw [if_pos c1]; rfl))
    exact W.vret hx hb hr (fun t ht hW => ⟨⟨u, rfl, ⟨hq1.symm, hI⟩, by rw [ht]; exact hP, va_K.moved hW.alike hK, hD⟩, hS.F ht⟩) hS.2.2 dX0_obeyNav_10
def pX0_obeyApproach (u : XS) : XS := if (xA u (Int32.toNatClampNeg 0)) = 4 then (pX0_leaveCourseFor u 1 0) else (if (xa u) = 0 then (xn_ (xg_ (xa_ u 1) 1) 0) else (xg_ (xa_ u 0) 0))
set_option maxHeartbeats 4000000 in
set_option maxRecDepth 100000 in
theorem kX0_obeyApproach (l : Launch) (D : va_G) (cI cZ : ClassId) (h : Nat → Nat) (sz : Nat) (u : XS) (hI : InvX u) : Mv l yX0_obeyApproach wsX0_obeyApproach { frames := 3, cells := 0, slots := 0, locals := 67 } D (tyl cI cZ) (wX cI cZ h) sz u [.ref (h 0)] (fun u9 => u9 = pX0_obeyApproach u ∧ InvX u9) := by
  refine Met.ofW (cc := cX0_obeyApproach) (maxL := 1) (ret := none) (by decide) rfl ?_
  intro p e s m args below meth c s₁ B hml hv
  obtain ⟨rfl, hsz, hP, hK, hD0⟩ := hv
  have hx := B.exec
  have hb := B.bytes
  have hr := B.returns
  have hts := atoms_spec (ws := wsX0_obeyApproach) B.pre
  have hin : ∀ w ∈ wsX00, w ∈ wsX0_obeyApproach := fun w h9 => List.mem_cons_of_mem _ (List.mem_append_right _ h9)
  have hown : s.vm.findClass RX0 = some m.cls := findClass_of_methodNamed B.named
  have hlocks := B.notSynchronized
  subst hsz
  have hD : va_D (va_A (wX cI cZ h u) s.heap.size) (wX cI cZ h u) := hD0.self (sz := s.heap.size)
  have hA : ∀ q : Nat, s.heap.size ≤ q → va_A (wX cI cZ h u) s.heap.size q := fun q h9 => Or.inr h9
  have hS : va_S (va_A (wX cI cZ h u) s.heap.size) s.heap s.heap [] := va_S.rf
  have hl := lv_entry ([.ref (h 0)]) (n := 1) (Nat.le_of_ble_eq_true rfl)
  rw [lg_entry_eq]
  generalize (lg_sl ([.ref (h 0)]) ++ List.replicate (1 - (lg_sl ([.ref (h 0)])).length) Slot.unset).toArray = ls at hl ⊢
  have hl : lv_has ls 1 [(0, .ref (h 0))] := hl
  generalize va_A (wX cI cZ h u) s.heap.size = A at hD hA hS ⊢
  refine lv_aload_n hx hb dX0_obeyApproach_0 rfl (lv_at hl 0 rfl) ?_
  refine va_get (D := D) (ci := 0) (v := .ref (h 1)) (C := RX0) (T := TX0) (N := 12) hx hb hts hin hown hK hP 0 rfl rfl 0 (by decide) (hts (.fieldLink RX0 7 "ModeDesk" "active" "[I") (by decide +kernel)) (fun _ h9 => h9) rfl dX0_obeyApproach_1 ?_
  refine lv_iconst (v := 0) hx hb dX0_obeyApproach_4 (by decide) ?_
  refine va_iald hx hb hK hP 1 0 rfl rfl (vi_c (by decide)) dX0_obeyApproach_5 ?_
  refine lv_iconst (v := 4) hx hb dX0_obeyApproach_6 (by decide) ?_
  refine lv_icmp_ne (tgt := 19) hx hb dX0_obeyApproach_7 (by decide) (fun c1 => ?_) (fun c1 => ?_)
  · refine lv_aload_n hx hb dX0_obeyApproach_19 rfl (lv_at hl 0 rfl) ?_
    refine va_get (D := D) (ci := 0) (v := .int (xa u)) (C := RX0) (T := TX0) (N := 12) hx hb hts hin hown hK hP 0 rfl rfl 6 (by decide) (hts (.fieldLink RX0 93 "ModeDesk" "approachArmed" "Z") (by decide +kernel)) (fun _ h9 => h9) rfl dX0_obeyApproach_20 ?_
    refine lv_if_eq (tgt := 39) hx hb dX0_obeyApproach_23 (by decide) (fun c2 => ?_) (fun c2 => ?_)
    · refine lv_aload_n hx hb dX0_obeyApproach_39 rfl (lv_at hl 0 rfl) ?_
      refine lv_iconst (v := 1) hx hb dX0_obeyApproach_40 (by decide) ?_
      refine va_put (D := D) (ci := 0) (v := .int 1) (ty := .boolean) (C := RX0) (T := TX0) (N := 12) hx hb hts hin tyX0 tyX0_ok nmX0 hown hK hP hD hS 0 rfl rfl 6 (by decide) (hts (.fieldLink RX0 93 "ModeDesk" "approachArmed" "Z") (by decide +kernel)) (fun _ h9 => h9) rfl (by decide +kernel) (bz_n bz1) (bz_f bz1) (Nat.le_of_ble_eq_true rfl) dX0_obeyApproach_41 (fun H4 locs hP hD hS => ?_)
      obtain ⟨u3, eu3⟩ : ∃ y : XS, y = xa_ u 1 := ⟨_, rfl⟩
      have hP : va_P D vwCl (wX cI cZ h u3) H4 := by rw [eu3]; exact hP
      have hD : va_D A (wX cI cZ h u3) := by rw [eu3]; exact hD
      have hIu3 : InvX u3 := by rw [eu3]; exact InvX.sa hI bz1
      refine lv_aload_n hx hb dX0_obeyApproach_44 rfl (lv_at hl 0 rfl) ?_
      refine lv_iconst (v := 1) hx hb dX0_obeyApproach_45 (by decide) ?_
      refine va_put (D := D) (ci := 0) (v := .int 1) (ty := .boolean) (C := RX0) (T := TX0) (N := 12) hx hb hts hin tyX0 tyX0_ok nmX0 hown hK hP hD hS 0 rfl rfl 7 (by decide) (hts (.fieldLink RX0 96 "ModeDesk" "glideArmed" "Z") (by decide +kernel)) (fun _ h9 => h9) rfl (by decide +kernel) (bz_n bz1) (bz_f bz1) (Nat.le_of_ble_eq_true rfl) dX0_obeyApproach_46 (fun H6 locs hP hD hS => ?_)
      obtain ⟨u5, eu5⟩ : ∃ y : XS, y = xg_ u3 1 := ⟨_, rfl⟩
      have hP : va_P D vwCl (wX cI cZ h u5) H6 := by rw [eu5]; exact hP
      have hD : va_D A (wX cI cZ h u5) := by rw [eu5]; exact hD
      have hIu5 : InvX u5 := by rw [eu5]; exact InvX.sg hIu3 bz1
      refine lv_aload_n hx hb dX0_obeyApproach_49 rfl (lv_at hl 0 rfl) ?_
      refine lv_iconst (v := 0) hx hb dX0_obeyApproach_50 (by decide) ?_
      refine va_put (D := D) (ci := 0) (v := .int 0) (ty := .boolean) (C := RX0) (T := TX0) (N := 12) hx hb hts hin tyX0 tyX0_ok nmX0 hown hK hP hD hS 0 rfl rfl 5 (by decide) (hts (.fieldLink RX0 90 "ModeDesk" "navArmed" "Z") (by decide +kernel)) (fun _ h9 => h9) rfl (by decide +kernel) (bz_n bz0) (bz_f bz0) (Nat.le_of_ble_eq_true rfl) dX0_obeyApproach_51 (fun H8 locs hP hD hS => ?_)
      obtain ⟨u7, eu7⟩ : ∃ y : XS, y = xn_ u5 0 := ⟨_, rfl⟩
      have hP : va_P D vwCl (wX cI cZ h u7) H8 := by rw [eu7]; exact hP
      have hD : va_D A (wX cI cZ h u7) := by rw [eu7]; exact hD
      have hIu7 : InvX u7 := by rw [eu7]; exact InvX.sn hIu5 bz0
      have hq1 : pX0_obeyApproach u = u7 := (by subst eu7; subst eu5; subst eu3; unfold pX0_obeyApproach; first | (rw [if_neg c1, if_pos c2]; done) | (rw [if_neg c1, if_pos c2]; rfl))
      exact W.vret hx hb hr (fun t ht hW => ⟨⟨u7, rfl, ⟨hq1.symm, hIu7⟩, by rw [ht]; exact hP, va_K.moved hW.alike hK, hD⟩, hS.F ht⟩) hS.2.2 dX0_obeyApproach_54
    · refine lv_aload_n hx hb dX0_obeyApproach_26 rfl (lv_at hl 0 rfl) ?_
      refine lv_iconst (v := 0) hx hb dX0_obeyApproach_27 (by decide) ?_
      refine va_put (D := D) (ci := 0) (v := .int 0) (ty := .boolean) (C := RX0) (T := TX0) (N := 12) hx hb hts hin tyX0 tyX0_ok nmX0 hown hK hP hD hS 0 rfl rfl 6 (by decide) (hts (.fieldLink RX0 93 "ModeDesk" "approachArmed" "Z") (by decide +kernel)) (fun _ h9 => h9) rfl (by decide +kernel) (bz_n bz0) (bz_f bz0) (Nat.le_of_ble_eq_true rfl) dX0_obeyApproach_28 (fun H10 locs hP hD hS => ?_)
      obtain ⟨u9, eu9⟩ : ∃ y : XS, y = xa_ u 0 := ⟨_, rfl⟩
      have hP : va_P D vwCl (wX cI cZ h u9) H10 := by rw [eu9]; exact hP
      have hD : va_D A (wX cI cZ h u9) := by rw [eu9]; exact hD
      have hIu9 : InvX u9 := by rw [eu9]; exact InvX.sa hI bz0
      refine lv_aload_n hx hb dX0_obeyApproach_31 rfl (lv_at hl 0 rfl) ?_
      refine lv_iconst (v := 0) hx hb dX0_obeyApproach_32 (by decide) ?_
      refine va_put (D := D) (ci := 0) (v := .int 0) (ty := .boolean) (C := RX0) (T := TX0) (N := 12) hx hb hts hin tyX0 tyX0_ok nmX0 hown hK hP hD hS 0 rfl rfl 7 (by decide) (hts (.fieldLink RX0 96 "ModeDesk" "glideArmed" "Z") (by decide +kernel)) (fun _ h9 => h9) rfl (by decide +kernel) (bz_n bz0) (bz_f bz0) (Nat.le_of_ble_eq_true rfl) dX0_obeyApproach_33 (fun H12 locs hP hD hS => ?_)
      obtain ⟨u11, eu11⟩ : ∃ y : XS, y = xg_ u9 0 := ⟨_, rfl⟩
      have hP : va_P D vwCl (wX cI cZ h u11) H12 := by rw [eu11]; exact hP
      have hD : va_D A (wX cI cZ h u11) := by rw [eu11]; exact hD
      have hIu11 : InvX u11 := by rw [eu11]; exact InvX.sg hIu9 bz0
      refine lv_goto (tgt := 54) hx hb dX0_obeyApproach_36 (by decide) ?_
      have hq1 : pX0_obeyApproach u = u11 := (by subst eu11; subst eu9; unfold pX0_obeyApproach; first | (rw [if_neg c1, if_neg c2]; done) | (rw [if_neg c1, if_neg c2]; rfl))
      exact W.vret hx hb hr (fun t ht hW => ⟨⟨u11, rfl, ⟨hq1.symm, hIu11⟩, by rw [ht]; exact hP, va_K.moved hW.alike hK, hD⟩, hS.F ht⟩) hS.2.2 dX0_obeyApproach_54
  · refine lv_aload_n hx hb dX0_obeyApproach_10 rfl (lv_at hl 0 rfl) ?_
    refine lv_iconst (v := 1) hx hb dX0_obeyApproach_11 (by decide) ?_
    refine lv_iconst (v := 0) hx hb dX0_obeyApproach_12 (by decide) ?_
    have hFc := va_free (wc := wX cI cZ h u) hD hS hA [0, 1, 2, 3, 4, 5] rfl
    refine va_callv (va_runV (As := [.int 1, .int 0]) (rest := []) ⟨hx, hb, hml, hown, hts⟩ (kX0_leaveCourseFor l D cI cZ h s.heap.size u 1 0 hI) (cwV 2 hts gX0_obeyApproach_X0_leaveCourseFor rfl rfl rfl (by decide +kernel) ⟨Nat.le_of_ble_eq_true rfl, Nat.le_of_ble_eq_true rfl⟩) ⟨bl_W, va_recv hK hP (ci := 0) (q0 := 0) rfl rfl, pr_W hP hK hD⟩ rfl rfl hl.1 rfl (lv_room (Nat.le_of_ble_eq_true rfl)) dX0_obeyApproach_13 ⟨Nat.zero_le _, Nat.zero_le _⟩) hS (fun q _ h9 => hFc q h9) hFc (fun u15 t H14 locs ht hvm hw hB hz1 hk1 hS => ?_)
    obtain ⟨hP, hK, hD⟩ := af_W hB ht hvm hFc
    clear hFc hB
    obtain ⟨eu15, hIu15⟩ := hw
    refine lv_goto (tgt := 54) hx hb dX0_obeyApproach_16 (by decide) ?_
    have hq1 : pX0_obeyApproach u = u15 := (by subst eu15; unfold pX0_obeyApproach; first | (rw [if_pos c1]; done) | (rw [if_pos c1]; rfl))
    exact W.vret hx hb hr (fun t ht hW => ⟨⟨u15, rfl, ⟨hq1.symm, hIu15⟩, by rw [ht]; exact hP, va_K.moved hW.alike hK, hD⟩, hS.F ht⟩) hS.2.2 dX0_obeyApproach_54
def pX0_obeyVertical (u : XS) (a1 : Int32) : XS := if (xA u (Int32.toNatClampNeg 1)) = 6 then (u) else (if (xA u (Int32.toNatClampNeg 1)) = a1 then (pX0_change u 1 1 0) else (pX0_change u 1 a1 0))
set_option maxHeartbeats 4000000 in
set_option maxRecDepth 100000 in
theorem kX0_obeyVertical (l : Launch) (D : va_G) (cI cZ : ClassId) (h : Nat → Nat) (sz : Nat) (u : XS) (a1 : Int32) (hI : InvX u) : Mv l yX0_obeyVertical wsX0_obeyVertical { frames := 2, cells := 0, slots := 0, locals := 45 } D (tyl cI cZ) (wX cI cZ h) sz u [.ref (h 0), .int a1] (fun u9 => u9 = pX0_obeyVertical u a1 ∧ InvX u9) := by
  refine Met.ofW (cc := cX0_obeyVertical) (maxL := 2) (ret := none) (by decide) rfl ?_
  intro p e s m args below meth c s₁ B hml hv
  obtain ⟨rfl, hsz, hP, hK, hD0⟩ := hv
  have hx := B.exec
  have hb := B.bytes
  have hr := B.returns
  have hts := atoms_spec (ws := wsX0_obeyVertical) B.pre
  have hin : ∀ w ∈ wsX00, w ∈ wsX0_obeyVertical := fun w h9 => List.mem_cons_of_mem _ (List.mem_append_right _ h9)
  have hown : s.vm.findClass RX0 = some m.cls := findClass_of_methodNamed B.named
  have hlocks := B.notSynchronized
  subst hsz
  have hD : va_D (va_A (wX cI cZ h u) s.heap.size) (wX cI cZ h u) := hD0.self (sz := s.heap.size)
  have hA : ∀ q : Nat, s.heap.size ≤ q → va_A (wX cI cZ h u) s.heap.size q := fun q h9 => Or.inr h9
  have hS : va_S (va_A (wX cI cZ h u) s.heap.size) s.heap s.heap [] := va_S.rf
  have hl := lv_entry ([.ref (h 0), .int a1]) (n := 2) (Nat.le_of_ble_eq_true rfl)
  rw [lg_entry_eq]
  generalize (lg_sl ([.ref (h 0), .int a1]) ++ List.replicate (2 - (lg_sl ([.ref (h 0), .int a1])).length) Slot.unset).toArray = ls at hl ⊢
  have hl : lv_has ls 2 [(0, .ref (h 0)), (1, .int a1)] := hl
  generalize va_A (wX cI cZ h u) s.heap.size = A at hD hA hS ⊢
  refine lv_aload_n hx hb dX0_obeyVertical_0 rfl (lv_at hl 0 rfl) ?_
  refine va_get (D := D) (ci := 0) (v := .ref (h 1)) (C := RX0) (T := TX0) (N := 12) hx hb hts hin hown hK hP 0 rfl rfl 0 (by decide) (hts (.fieldLink RX0 7 "ModeDesk" "active" "[I") (by decide +kernel)) (fun _ h9 => h9) rfl dX0_obeyVertical_1 ?_
  refine lv_iconst (v := 1) hx hb dX0_obeyVertical_4 (by decide) ?_
  refine va_iald hx hb hK hP 1 0 rfl rfl (vi_c (by decide)) dX0_obeyVertical_5 ?_
  refine lv_bipush (v := 6) hx hb dX0_obeyVertical_6 (by decide) ?_
  refine lv_icmp_ne (tgt := 12) hx hb dX0_obeyVertical_8 (by decide) (fun c1 => ?_) (fun c1 => ?_)
  · refine lv_aload_n hx hb dX0_obeyVertical_12 rfl (lv_at hl 0 rfl) ?_
    refine lv_iconst (v := 1) hx hb dX0_obeyVertical_13 (by decide) ?_
    refine lv_aload_n hx hb dX0_obeyVertical_14 rfl (lv_at hl 0 rfl) ?_
    refine va_get (D := D) (ci := 0) (v := .ref (h 1)) (C := RX0) (T := TX0) (N := 12) hx hb hts hin hown hK hP 0 rfl rfl 0 (by decide) (hts (.fieldLink RX0 7 "ModeDesk" "active" "[I") (by decide +kernel)) (fun _ h9 => h9) rfl dX0_obeyVertical_15 ?_
    refine lv_iconst (v := 1) hx hb dX0_obeyVertical_18 (by decide) ?_
    refine va_iald hx hb hK hP 1 0 rfl rfl (vi_c (by decide)) dX0_obeyVertical_19 ?_
    refine lv_iload_n hx hb dX0_obeyVertical_20 rfl (lv_at hl 1 rfl) ?_
    refine lv_icmp_ne (tgt := 28) hx hb dX0_obeyVertical_21 (by decide) (fun c2 => ?_) (fun c2 => ?_)
    · refine lv_iload_n hx hb dX0_obeyVertical_28 rfl (lv_at hl 1 rfl) ?_
      refine lv_iconst (v := 0) hx hb dX0_obeyVertical_29 (by decide) ?_
      have hFc := va_free (wc := wX cI cZ h u) hD hS hA [0, 1, 2, 3, 4, 5] rfl
      refine va_callv (va_runV (As := [.int 1, .int a1, .int 0]) (rest := []) ⟨hx, hb, hml, hown, hts⟩ (kX0_change l D cI cZ h s.heap.size u 1 a1 0 hI bz1) (cwV 3 hts gX0_obeyVertical_X0_change rfl rfl rfl (by decide +kernel) ⟨Nat.le_of_ble_eq_true rfl, Nat.le_of_ble_eq_true rfl⟩) ⟨bl_W, va_recv hK hP (ci := 0) (q0 := 0) rfl rfl, pr_W hP hK hD⟩ rfl rfl hl.1 rfl (lv_room (Nat.le_of_ble_eq_true rfl)) dX0_obeyVertical_30 ⟨Nat.zero_le _, Nat.zero_le _⟩) hS (fun q _ h9 => hFc q h9) hFc (fun u5 t H4 locs ht hvm hw hB hz1 hk1 hS => ?_)
      obtain ⟨hP, hK, hD⟩ := af_W hB ht hvm hFc
      clear hFc hB
      obtain ⟨eu5, hIu5⟩ := hw
      have hq1 : pX0_obeyVertical u a1 = u5 := (by subst eu5; unfold pX0_obeyVertical; first | (rw [if_neg c1, if_neg c2]; done) | (rw [if_neg c1, if_neg c2]; rfl))
      exact W.vret hx hb hr (fun t ht hW => ⟨⟨u5, rfl, ⟨hq1.symm, hIu5⟩, by rw [ht]; exact hP, va_K.moved hW.alike hK, hD⟩, hS.F ht⟩) hS.2.2 dX0_obeyVertical_33
    · refine lv_iconst (v := 1) hx hb dX0_obeyVertical_24 (by decide) ?_
      refine lv_goto (tgt := 29) hx hb dX0_obeyVertical_25 (by decide) ?_
      refine lv_iconst (v := 0) hx hb dX0_obeyVertical_29 (by decide) ?_
      have hFc := va_free (wc := wX cI cZ h u) hD hS hA [0, 1, 2, 3, 4, 5] rfl
      refine va_callv (va_runV (As := [.int 1, .int 1, .int 0]) (rest := []) ⟨hx, hb, hml, hown, hts⟩ (kX0_change l D cI cZ h s.heap.size u 1 1 0 hI bz1) (cwV 3 hts gX0_obeyVertical_X0_change rfl rfl rfl (by decide +kernel) ⟨Nat.le_of_ble_eq_true rfl, Nat.le_of_ble_eq_true rfl⟩) ⟨bl_W, va_recv hK hP (ci := 0) (q0 := 0) rfl rfl, pr_W hP hK hD⟩ rfl rfl hl.1 rfl (lv_room (Nat.le_of_ble_eq_true rfl)) dX0_obeyVertical_30 ⟨Nat.zero_le _, Nat.zero_le _⟩) hS (fun q _ h9 => hFc q h9) hFc (fun u8 t H7 locs ht hvm hw hB hz1 hk1 hS => ?_)
      obtain ⟨hP, hK, hD⟩ := af_W hB ht hvm hFc
      clear hFc hB
      obtain ⟨eu8, hIu8⟩ := hw
      have hq1 : pX0_obeyVertical u a1 = u8 := (by subst eu8; unfold pX0_obeyVertical; first | (rw [if_neg c1, if_pos c2]; done) | (rw [if_neg c1, if_pos c2]; rfl))
      exact W.vret hx hb hr (fun t ht hW => ⟨⟨u8, rfl, ⟨hq1.symm, hIu8⟩, by rw [ht]; exact hP, va_K.moved hW.alike hK, hD⟩, hS.F ht⟩) hS.2.2 dX0_obeyVertical_33
  · have hq1 : pX0_obeyVertical u a1 = u := (by unfold pX0_obeyVertical; first | (rw [if_pos c1]; done) | (rw [if_pos c1]; rfl))
    exact W.vret hx hb hr (fun t ht hW => ⟨⟨u, rfl, ⟨hq1.symm, hI⟩, by rw [ht]; exact hP, va_K.moved hW.alike hK, hD⟩, hS.F ht⟩) hS.2.2 dX0_obeyVertical_11
def pX0_obeyAround (u : XS) : XS := pX0_disengageWithWarning (pX0_disarmAll (pX0_change (pX0_change u 0 5 0) 1 7 0))
set_option maxHeartbeats 4000000 in
set_option maxRecDepth 100000 in
theorem kX0_obeyAround (l : Launch) (D : va_G) (cI cZ : ClassId) (h : Nat → Nat) (sz : Nat) (u : XS) (hI : InvX u) : Mv l yX0_obeyAround wsX0_obeyAround { frames := 2, cells := 0, slots := 0, locals := 45 } D (tyl cI cZ) (wX cI cZ h) sz u [.ref (h 0)] (fun u9 => u9 = pX0_obeyAround u ∧ InvX u9) := by
  refine Met.ofW (cc := cX0_obeyAround) (maxL := 1) (ret := none) (by decide) rfl ?_
  intro p e s m args below meth c s₁ B hml hv
  obtain ⟨rfl, hsz, hP, hK, hD0⟩ := hv
  have hx := B.exec
  have hb := B.bytes
  have hr := B.returns
  have hts := atoms_spec (ws := wsX0_obeyAround) B.pre
  have hin : ∀ w ∈ wsX00, w ∈ wsX0_obeyAround := fun w h9 => List.mem_cons_of_mem _ (List.mem_append_right _ h9)
  have hown : s.vm.findClass RX0 = some m.cls := findClass_of_methodNamed B.named
  have hlocks := B.notSynchronized
  subst hsz
  have hD : va_D (va_A (wX cI cZ h u) s.heap.size) (wX cI cZ h u) := hD0.self (sz := s.heap.size)
  have hA : ∀ q : Nat, s.heap.size ≤ q → va_A (wX cI cZ h u) s.heap.size q := fun q h9 => Or.inr h9
  have hS : va_S (va_A (wX cI cZ h u) s.heap.size) s.heap s.heap [] := va_S.rf
  have hl := lv_entry ([.ref (h 0)]) (n := 1) (Nat.le_of_ble_eq_true rfl)
  rw [lg_entry_eq]
  generalize (lg_sl ([.ref (h 0)]) ++ List.replicate (1 - (lg_sl ([.ref (h 0)])).length) Slot.unset).toArray = ls at hl ⊢
  have hl : lv_has ls 1 [(0, .ref (h 0))] := hl
  generalize va_A (wX cI cZ h u) s.heap.size = A at hD hA hS ⊢
  refine lv_aload_n hx hb dX0_obeyAround_0 rfl (lv_at hl 0 rfl) ?_
  refine lv_iconst (v := 0) hx hb dX0_obeyAround_1 (by decide) ?_
  refine lv_iconst (v := 5) hx hb dX0_obeyAround_2 (by decide) ?_
  refine lv_iconst (v := 0) hx hb dX0_obeyAround_3 (by decide) ?_
  have hFc := va_free (wc := wX cI cZ h u) hD hS hA [0, 1, 2, 3, 4, 5] rfl
  refine va_callv (va_runV (As := [.int 0, .int 5, .int 0]) (rest := []) ⟨hx, hb, hml, hown, hts⟩ (kX0_change l D cI cZ h s.heap.size u 0 5 0 hI bz0) (cwV 3 hts gX0_obeyAround_X0_change rfl rfl rfl (by decide +kernel) ⟨Nat.le_of_ble_eq_true rfl, Nat.le_of_ble_eq_true rfl⟩) ⟨bl_W, va_recv hK hP (ci := 0) (q0 := 0) rfl rfl, pr_W hP hK hD⟩ rfl rfl hl.1 rfl (lv_room (Nat.le_of_ble_eq_true rfl)) dX0_obeyAround_4 ⟨Nat.zero_le _, Nat.zero_le _⟩) hS (fun q _ h9 => hFc q h9) hFc (fun u3 t H2 locs ht hvm hw hB hz1 hk1 hS => ?_)
  obtain ⟨hP, hK, hD⟩ := af_W hB ht hvm hFc
  clear hFc hB
  obtain ⟨eu3, hIu3⟩ := hw
  refine lv_aload_n hx hb dX0_obeyAround_7 rfl (lv_at hl 0 rfl) ?_
  refine lv_iconst (v := 1) hx hb dX0_obeyAround_8 (by decide) ?_
  refine lv_bipush (v := 7) hx hb dX0_obeyAround_9 (by decide) ?_
  refine lv_iconst (v := 0) hx hb dX0_obeyAround_11 (by decide) ?_
  have hFc := va_free (wc := wX cI cZ h u3) hD hS hA [0, 1, 2, 3, 4, 5] rfl
  refine va_callv (va_runV (As := [.int 1, .int 7, .int 0]) (rest := []) ⟨hx, hb, hml, hown, hts⟩ (kX0_change l D cI cZ h H2.size u3 1 7 0 hIu3 bz1) (cwV 3 hts gX0_obeyAround_X0_change rfl rfl rfl (by decide +kernel) ⟨Nat.le_of_ble_eq_true rfl, Nat.le_of_ble_eq_true rfl⟩) ⟨bl_W, va_recv hK hP (ci := 0) (q0 := 0) rfl rfl, pr_W hP hK hD⟩ rfl rfl hl.1 rfl (lv_room (Nat.le_of_ble_eq_true rfl)) dX0_obeyAround_12 ⟨Nat.zero_le _, Nat.zero_le _⟩) hS (fun q _ h9 => hFc q h9) hFc (fun u6 t H5 locs ht hvm hw hB hz1 hk1 hS => ?_)
  obtain ⟨hP, hK, hD⟩ := af_W hB ht hvm hFc
  clear hFc hB
  obtain ⟨eu6, hIu6⟩ := hw
  refine lv_aload_n hx hb dX0_obeyAround_15 rfl (lv_at hl 0 rfl) ?_
  have hFc := va_free (wc := wX cI cZ h u6) hD hS hA [0, 1, 2, 3, 4, 5] rfl
  refine va_callv (va_runV (As := []) (rest := []) ⟨hx, hb, hml, hown, hts⟩ (kX0_disarmAll l D cI cZ h H5.size u6  hIu6) (cwV 0 hts gX0_obeyAround_X0_disarmAll rfl rfl rfl (by decide +kernel) ⟨Nat.le_of_ble_eq_true rfl, Nat.le_of_ble_eq_true rfl⟩) ⟨bl_W, va_recv hK hP (ci := 0) (q0 := 0) rfl rfl, pr_W hP hK hD⟩ rfl rfl hl.1 rfl (lv_room (Nat.le_of_ble_eq_true rfl)) dX0_obeyAround_16 ⟨Nat.zero_le _, Nat.zero_le _⟩) hS (fun q _ h9 => hFc q h9) hFc (fun u9 t H8 locs ht hvm hw hB hz1 hk1 hS => ?_)
  obtain ⟨hP, hK, hD⟩ := af_W hB ht hvm hFc
  clear hFc hB
  obtain ⟨eu9, hIu9⟩ := hw
  refine lv_aload_n hx hb dX0_obeyAround_19 rfl (lv_at hl 0 rfl) ?_
  have hFc := va_free (wc := wX cI cZ h u9) hD hS hA [0, 1, 2, 3, 4, 5] rfl
  refine va_callv (va_runV (As := []) (rest := []) ⟨hx, hb, hml, hown, hts⟩ (kX0_disengageWithWarning l D cI cZ h H8.size u9  hIu9) (cwV 0 hts gX0_obeyAround_X0_disengageWithWarning rfl rfl rfl (by decide +kernel) ⟨Nat.le_of_ble_eq_true rfl, Nat.le_of_ble_eq_true rfl⟩) ⟨bl_W, va_recv hK hP (ci := 0) (q0 := 0) rfl rfl, pr_W hP hK hD⟩ rfl rfl hl.1 rfl (lv_room (Nat.le_of_ble_eq_true rfl)) dX0_obeyAround_20 ⟨Nat.zero_le _, Nat.zero_le _⟩) hS (fun q _ h9 => hFc q h9) hFc (fun u12 t H11 locs ht hvm hw hB hz1 hk1 hS => ?_)
  obtain ⟨hP, hK, hD⟩ := af_W hB ht hvm hFc
  clear hFc hB
  obtain ⟨eu12, hIu12⟩ := hw
  have hq1 : pX0_obeyAround u = u12 := (by subst eu12; subst eu9; subst eu6; subst eu3; rfl)
  exact W.vret hx hb hr (fun t ht hW => ⟨⟨u12, rfl, ⟨hq1.symm, hIu12⟩, by rw [ht]; exact hP, va_K.moved hW.alike hK, hD⟩, hS.F ht⟩) hS.2.2 dX0_obeyAround_23
def pX0_obeySync (u : XS) : XS := if (xA u (Int32.toNatClampNeg 0)) = 5 then (if (xA (pX0_change u 0 1 0) (Int32.toNatClampNeg 1)) = 7 then (pX0_change (pX0_change u 0 1 0) 1 1 0) else (pX0_change u 0 1 0)) else (if (xA u (Int32.toNatClampNeg 1)) = 7 then (pX0_change u 1 1 0) else (u))
set_option maxHeartbeats 4000000 in
set_option maxRecDepth 100000 in
theorem kX0_obeySync (l : Launch) (D : va_G) (cI cZ : ClassId) (h : Nat → Nat) (sz : Nat) (u : XS) (hI : InvX u) : Mv l yX0_obeySync wsX0_obeySync { frames := 2, cells := 0, slots := 0, locals := 45 } D (tyl cI cZ) (wX cI cZ h) sz u [.ref (h 0)] (fun u9 => u9 = pX0_obeySync u ∧ InvX u9) := by
  refine Met.ofW (cc := cX0_obeySync) (maxL := 1) (ret := none) (by decide) rfl ?_
  intro p e s m args below meth c s₁ B hml hv
  obtain ⟨rfl, hsz, hP, hK, hD0⟩ := hv
  have hx := B.exec
  have hb := B.bytes
  have hr := B.returns
  have hts := atoms_spec (ws := wsX0_obeySync) B.pre
  have hin : ∀ w ∈ wsX00, w ∈ wsX0_obeySync := fun w h9 => List.mem_cons_of_mem _ (List.mem_append_right _ h9)
  have hown : s.vm.findClass RX0 = some m.cls := findClass_of_methodNamed B.named
  have hlocks := B.notSynchronized
  subst hsz
  have hD : va_D (va_A (wX cI cZ h u) s.heap.size) (wX cI cZ h u) := hD0.self (sz := s.heap.size)
  have hA : ∀ q : Nat, s.heap.size ≤ q → va_A (wX cI cZ h u) s.heap.size q := fun q h9 => Or.inr h9
  have hS : va_S (va_A (wX cI cZ h u) s.heap.size) s.heap s.heap [] := va_S.rf
  have hl := lv_entry ([.ref (h 0)]) (n := 1) (Nat.le_of_ble_eq_true rfl)
  rw [lg_entry_eq]
  generalize (lg_sl ([.ref (h 0)]) ++ List.replicate (1 - (lg_sl ([.ref (h 0)])).length) Slot.unset).toArray = ls at hl ⊢
  have hl : lv_has ls 1 [(0, .ref (h 0))] := hl
  generalize va_A (wX cI cZ h u) s.heap.size = A at hD hA hS ⊢
  refine lv_aload_n hx hb dX0_obeySync_0 rfl (lv_at hl 0 rfl) ?_
  refine va_get (D := D) (ci := 0) (v := .ref (h 1)) (C := RX0) (T := TX0) (N := 12) hx hb hts hin hown hK hP 0 rfl rfl 0 (by decide) (hts (.fieldLink RX0 7 "ModeDesk" "active" "[I") (by decide +kernel)) (fun _ h9 => h9) rfl dX0_obeySync_1 ?_
  refine lv_iconst (v := 0) hx hb dX0_obeySync_4 (by decide) ?_
  refine va_iald hx hb hK hP 1 0 rfl rfl (vi_c (by decide)) dX0_obeySync_5 ?_
  refine lv_iconst (v := 5) hx hb dX0_obeySync_6 (by decide) ?_
  refine lv_icmp_ne (tgt := 17) hx hb dX0_obeySync_7 (by decide) (fun c1 => ?_) (fun c1 => ?_)
  · refine lv_aload_n hx hb dX0_obeySync_17 rfl (lv_at hl 0 rfl) ?_
    refine va_get (D := D) (ci := 0) (v := .ref (h 1)) (C := RX0) (T := TX0) (N := 12) hx hb hts hin hown hK hP 0 rfl rfl 0 (by decide) (hts (.fieldLink RX0 7 "ModeDesk" "active" "[I") (by decide +kernel)) (fun _ h9 => h9) rfl dX0_obeySync_18 ?_
    refine lv_iconst (v := 1) hx hb dX0_obeySync_21 (by decide) ?_
    refine va_iald hx hb hK hP 1 0 rfl rfl (vi_c (by decide)) dX0_obeySync_22 ?_
    refine lv_bipush (v := 7) hx hb dX0_obeySync_23 (by decide) ?_
    refine lv_icmp_ne (tgt := 35) hx hb dX0_obeySync_25 (by decide) (fun c2 => ?_) (fun c2 => ?_)
    · have hq1 : pX0_obeySync u = u := (by unfold pX0_obeySync; first | (rw [if_neg c1, if_neg c2]; done) | (rw [if_neg c1, if_neg c2]; rfl))
      exact W.vret hx hb hr (fun t ht hW => ⟨⟨u, rfl, ⟨hq1.symm, hI⟩, by rw [ht]; exact hP, va_K.moved hW.alike hK, hD⟩, hS.F ht⟩) hS.2.2 dX0_obeySync_35
    · refine lv_aload_n hx hb dX0_obeySync_28 rfl (lv_at hl 0 rfl) ?_
      refine lv_iconst (v := 1) hx hb dX0_obeySync_29 (by decide) ?_
      refine lv_iconst (v := 1) hx hb dX0_obeySync_30 (by decide) ?_
      refine lv_iconst (v := 0) hx hb dX0_obeySync_31 (by decide) ?_
      have hFc := va_free (wc := wX cI cZ h u) hD hS hA [0, 1, 2, 3, 4, 5] rfl
      refine va_callv (va_runV (As := [.int 1, .int 1, .int 0]) (rest := []) ⟨hx, hb, hml, hown, hts⟩ (kX0_change l D cI cZ h s.heap.size u 1 1 0 hI bz1) (cwV 3 hts gX0_obeySync_X0_change rfl rfl rfl (by decide +kernel) ⟨Nat.le_of_ble_eq_true rfl, Nat.le_of_ble_eq_true rfl⟩) ⟨bl_W, va_recv hK hP (ci := 0) (q0 := 0) rfl rfl, pr_W hP hK hD⟩ rfl rfl hl.1 rfl (lv_room (Nat.le_of_ble_eq_true rfl)) dX0_obeySync_32 ⟨Nat.zero_le _, Nat.zero_le _⟩) hS (fun q _ h9 => hFc q h9) hFc (fun u5 t H4 locs ht hvm hw hB hz1 hk1 hS => ?_)
      obtain ⟨hP, hK, hD⟩ := af_W hB ht hvm hFc
      clear hFc hB
      obtain ⟨eu5, hIu5⟩ := hw
      have hq1 : pX0_obeySync u = u5 := (by subst eu5; unfold pX0_obeySync; first | (rw [if_neg c1, if_pos c2]; done) | (rw [if_neg c1, if_pos c2]; rfl))
      exact W.vret hx hb hr (fun t ht hW => ⟨⟨u5, rfl, ⟨hq1.symm, hIu5⟩, by rw [ht]; exact hP, va_K.moved hW.alike hK, hD⟩, hS.F ht⟩) hS.2.2 dX0_obeySync_35
  · refine lv_aload_n hx hb dX0_obeySync_10 rfl (lv_at hl 0 rfl) ?_
    refine lv_iconst (v := 0) hx hb dX0_obeySync_11 (by decide) ?_
    refine lv_iconst (v := 1) hx hb dX0_obeySync_12 (by decide) ?_
    refine lv_iconst (v := 0) hx hb dX0_obeySync_13 (by decide) ?_
    have hFc := va_free (wc := wX cI cZ h u) hD hS hA [0, 1, 2, 3, 4, 5] rfl
    refine va_callv (va_runV (As := [.int 0, .int 1, .int 0]) (rest := []) ⟨hx, hb, hml, hown, hts⟩ (kX0_change l D cI cZ h s.heap.size u 0 1 0 hI bz0) (cwV 3 hts gX0_obeySync_X0_change rfl rfl rfl (by decide +kernel) ⟨Nat.le_of_ble_eq_true rfl, Nat.le_of_ble_eq_true rfl⟩) ⟨bl_W, va_recv hK hP (ci := 0) (q0 := 0) rfl rfl, pr_W hP hK hD⟩ rfl rfl hl.1 rfl (lv_room (Nat.le_of_ble_eq_true rfl)) dX0_obeySync_14 ⟨Nat.zero_le _, Nat.zero_le _⟩) hS (fun q _ h9 => hFc q h9) hFc (fun u8 t H7 locs ht hvm hw hB hz1 hk1 hS => ?_)
    obtain ⟨hP, hK, hD⟩ := af_W hB ht hvm hFc
    clear hFc hB
    obtain ⟨eu8, hIu8⟩ := hw
    refine lv_aload_n hx hb dX0_obeySync_17 rfl (lv_at hl 0 rfl) ?_
    refine va_get (D := D) (ci := 0) (v := .ref (h 1)) (C := RX0) (T := TX0) (N := 12) hx hb hts hin hown hK hP 0 rfl rfl 0 (by decide) (hts (.fieldLink RX0 7 "ModeDesk" "active" "[I") (by decide +kernel)) (fun _ h9 => h9) rfl dX0_obeySync_18 ?_
    refine lv_iconst (v := 1) hx hb dX0_obeySync_21 (by decide) ?_
    refine va_iald hx hb hK hP 1 0 rfl rfl (vi_c (by decide)) dX0_obeySync_22 ?_
    refine lv_bipush (v := 7) hx hb dX0_obeySync_23 (by decide) ?_
    refine lv_icmp_ne (tgt := 35) hx hb dX0_obeySync_25 (by decide) (fun c9 => ?_) (fun c9 => ?_)
    · have hq1 : pX0_obeySync u = u8 := (by subst eu8; unfold pX0_obeySync; first | (rw [if_pos c1, if_neg c9]; done) | (rw [if_pos c1, if_neg c9]; rfl))
      exact W.vret hx hb hr (fun t ht hW => ⟨⟨u8, rfl, ⟨hq1.symm, hIu8⟩, by rw [ht]; exact hP, va_K.moved hW.alike hK, hD⟩, hS.F ht⟩) hS.2.2 dX0_obeySync_35
    · refine lv_aload_n hx hb dX0_obeySync_28 rfl (lv_at hl 0 rfl) ?_
      refine lv_iconst (v := 1) hx hb dX0_obeySync_29 (by decide) ?_
      refine lv_iconst (v := 1) hx hb dX0_obeySync_30 (by decide) ?_
      refine lv_iconst (v := 0) hx hb dX0_obeySync_31 (by decide) ?_
      have hFc := va_free (wc := wX cI cZ h u8) hD hS hA [0, 1, 2, 3, 4, 5] rfl
      refine va_callv (va_runV (As := [.int 1, .int 1, .int 0]) (rest := []) ⟨hx, hb, hml, hown, hts⟩ (kX0_change l D cI cZ h H7.size u8 1 1 0 hIu8 bz1) (cwV 3 hts gX0_obeySync_X0_change rfl rfl rfl (by decide +kernel) ⟨Nat.le_of_ble_eq_true rfl, Nat.le_of_ble_eq_true rfl⟩) ⟨bl_W, va_recv hK hP (ci := 0) (q0 := 0) rfl rfl, pr_W hP hK hD⟩ rfl rfl hl.1 rfl (lv_room (Nat.le_of_ble_eq_true rfl)) dX0_obeySync_32 ⟨Nat.zero_le _, Nat.zero_le _⟩) hS (fun q _ h9 => hFc q h9) hFc (fun u12 t H11 locs ht hvm hw hB hz1 hk1 hS => ?_)
      obtain ⟨hP, hK, hD⟩ := af_W hB ht hvm hFc
      clear hFc hB
      obtain ⟨eu12, hIu12⟩ := hw
      have hq1 : pX0_obeySync u = u12 := (by subst eu12; subst eu8; unfold pX0_obeySync; first | (rw [if_pos c1, if_pos c9]; done) | (rw [if_pos c1, if_pos c9]; rfl))
      exact W.vret hx hb hr (fun t ht hW => ⟨⟨u12, rfl, ⟨hq1.symm, hIu12⟩, by rw [ht]; exact hP, va_K.moved hW.alike hK, hD⟩, hS.F ht⟩) hS.2.2 dX0_obeySync_35
def pX0_obeyTransfer (u : XS) : XS := if (xS u (Int32.toNatClampNeg (1 - (xl u)))) = 0 then (u) else (if (pX0_isOn (xl_ u (1 - (xl u)))) = 0 then (xl_ u (1 - (xl u))) else (pX0_goToBase (xl_ u (1 - (xl u)))))
set_option maxHeartbeats 4000000 in
set_option maxRecDepth 100000 in
theorem kX0_obeyTransfer (l : Launch) (D : va_G) (cI cZ : ClassId) (h : Nat → Nat) (sz : Nat) (u : XS) (hI : InvX u) : Mv l yX0_obeyTransfer wsX0_obeyTransfer { frames := 3, cells := 0, slots := 0, locals := 65 } D (tyl cI cZ) (wX cI cZ h) sz u [.ref (h 0)] (fun u9 => u9 = pX0_obeyTransfer u ∧ InvX u9) := by
  refine Met.ofW (cc := cX0_obeyTransfer) (maxL := 2) (ret := none) (by decide) rfl ?_
  intro p e s m args below meth c s₁ B hml hv
  obtain ⟨rfl, hsz, hP, hK, hD0⟩ := hv
  have hx := B.exec
  have hb := B.bytes
  have hr := B.returns
  have hts := atoms_spec (ws := wsX0_obeyTransfer) B.pre
  have hin : ∀ w ∈ wsX00, w ∈ wsX0_obeyTransfer := fun w h9 => List.mem_cons_of_mem _ (List.mem_append_right _ h9)
  have hown : s.vm.findClass RX0 = some m.cls := findClass_of_methodNamed B.named
  have hlocks := B.notSynchronized
  subst hsz
  have hD : va_D (va_A (wX cI cZ h u) s.heap.size) (wX cI cZ h u) := hD0.self (sz := s.heap.size)
  have hA : ∀ q : Nat, s.heap.size ≤ q → va_A (wX cI cZ h u) s.heap.size q := fun q h9 => Or.inr h9
  have hS : va_S (va_A (wX cI cZ h u) s.heap.size) s.heap s.heap [] := va_S.rf
  have hl := lv_entry ([.ref (h 0)]) (n := 2) (Nat.le_of_ble_eq_true rfl)
  rw [lg_entry_eq]
  generalize (lg_sl ([.ref (h 0)]) ++ List.replicate (2 - (lg_sl ([.ref (h 0)])).length) Slot.unset).toArray = ls at hl ⊢
  have hl : lv_has ls 2 [(0, .ref (h 0))] := hl
  generalize va_A (wX cI cZ h u) s.heap.size = A at hD hA hS ⊢
  refine lv_iconst (v := 1) hx hb dX0_obeyTransfer_0 (by decide) ?_
  refine lv_aload_n hx hb dX0_obeyTransfer_1 rfl (lv_at hl 0 rfl) ?_
  refine va_get (D := D) (ci := 0) (v := .int (xl u)) (C := RX0) (T := TX0) (N := 12) hx hb hts hin hown hK hP 0 rfl rfl 4 (by decide) (hts (.fieldLink RX0 111 "ModeDesk" "leader" "I") (by decide +kernel)) (fun _ h9 => h9) rfl dX0_obeyTransfer_2 ?_
  refine lv_isub hx hb dX0_obeyTransfer_5 ?_
  refine lv_istore_n (lv' := [(1, .int (1 - (xl u))), (0, .ref (h 0))]) hx hb dX0_obeyTransfer_6 rfl hl (by decide) rfl (fun ls hl => ?_)
  refine lv_aload_n hx hb dX0_obeyTransfer_7 rfl (lv_at hl 1 rfl) ?_
  refine va_get (D := D) (ci := 0) (v := .ref (h 4)) (C := RX0) (T := TX0) (N := 12) hx hb hts hin hown hK hP 0 rfl rfl 3 (by decide) (hts (.fieldLink RX0 19 "ModeDesk" "soundness" "[Z") (by decide +kernel)) (fun _ h9 => h9) rfl dX0_obeyTransfer_8 ?_
  refine lv_iload_n hx hb dX0_obeyTransfer_11 rfl (lv_at hl 0 rfl) ?_
  refine va_zald hx hb hK hP 4 1 rfl rfl (vi_2 (bz_s hI.1)) dX0_obeyTransfer_12 ?_
  refine lv_if_ne (tgt := 17) hx hb dX0_obeyTransfer_13 (by decide) (fun c1 => ?_) (fun c1 => ?_)
  · refine lv_aload_n hx hb dX0_obeyTransfer_17 rfl (lv_at hl 1 rfl) ?_
    refine lv_iload_n hx hb dX0_obeyTransfer_18 rfl (lv_at hl 0 rfl) ?_
    refine va_put (D := D) (ci := 0) (v := .int (1 - (xl u))) (ty := .int) (C := RX0) (T := TX0) (N := 12) hx hb hts hin tyX0 tyX0_ok nmX0 hown hK hP hD hS 0 rfl rfl 4 (by decide) (hts (.fieldLink RX0 111 "ModeDesk" "leader" "I") (by decide +kernel)) (fun _ h9 => h9) rfl (by decide +kernel) rfl rfl (Nat.le_of_ble_eq_true rfl) dX0_obeyTransfer_19 (fun H3 locs hP hD hS => ?_)
    obtain ⟨u2, eu2⟩ : ∃ y : XS, y = xl_ u (1 - (xl u)) := ⟨_, rfl⟩
    have hP : va_P D vwCl (wX cI cZ h u2) H3 := by rw [eu2]; exact hP
    have hD : va_D A (wX cI cZ h u2) := by rw [eu2]; exact hD
    have hIu2 : InvX u2 := by rw [eu2]; exact InvX.sl hI (bz_s hI.1)
    refine lv_aload_n hx hb dX0_obeyTransfer_22 rfl (lv_at hl 1 rfl) ?_
    have hFc := va_free (wc := wX cI cZ h u2) hD hS hA [0, 1, 2, 3, 4, 5] rfl
    refine va_calli (va_runV (As := []) (rest := []) ⟨hx, hb, hml, hown, hts⟩ (kX0_isOn l D cI cZ h H3.size u2  hIu2) (cwV 0 hts gX0_obeyTransfer_X0_isOn rfl rfl rfl (by decide +kernel) ⟨Nat.le_of_ble_eq_true rfl, Nat.le_of_ble_eq_true rfl⟩) ⟨bl_W, va_recv hK hP (ci := 0) (q0 := 0) rfl rfl, pr_W hP hK hD⟩ rfl rfl hl.1 rfl (lv_room (Nat.le_of_ble_eq_true rfl)) dX0_obeyTransfer_23 ⟨Nat.zero_le _, Nat.zero_le _⟩) hS (fun q _ h9 => hFc q h9) hFc (fun r4 u6 t H5 locs ht hvm hw hB hz1 hk1 hS => ?_)
    obtain ⟨hP, hK, hD⟩ := af_W hB ht hvm hFc
    clear hFc hB
    obtain ⟨er4, eu6, br4⟩ := hw
    rw [eu6] at hP hD
    refine lv_if_eq (tgt := 33) hx hb dX0_obeyTransfer_26 (by decide) (fun c7 => ?_) (fun c7 => ?_)
    · have hq1 : pX0_obeyTransfer u = u2 := (by subst er4; subst eu2; unfold pX0_obeyTransfer; first | (rw [if_neg c1, if_pos c7]; done) | (rw [if_neg c1, if_pos c7]; rfl))
      exact W.vret hx hb hr (fun t ht hW => ⟨⟨u2, rfl, ⟨hq1.symm, hIu2⟩, by rw [ht]; exact hP, va_K.moved hW.alike hK, hD⟩, hS.F ht⟩) hS.2.2 dX0_obeyTransfer_33
    · refine lv_aload_n hx hb dX0_obeyTransfer_29 rfl (lv_at hl 1 rfl) ?_
      have hFc := va_free (wc := wX cI cZ h u2) hD hS hA [0, 1, 2, 3, 4, 5] rfl
      refine va_callv (va_runV (As := []) (rest := []) ⟨hx, hb, hml, hown, hts⟩ (kX0_goToBase l D cI cZ h H5.size u2  hIu2) (cwV 0 hts gX0_obeyTransfer_X0_goToBase rfl rfl rfl (by decide +kernel) ⟨Nat.le_of_ble_eq_true rfl, Nat.le_of_ble_eq_true rfl⟩) ⟨bl_W, va_recv hK hP (ci := 0) (q0 := 0) rfl rfl, pr_W hP hK hD⟩ rfl rfl hl.1 rfl (lv_room (Nat.le_of_ble_eq_true rfl)) dX0_obeyTransfer_30 ⟨Nat.zero_le _, Nat.zero_le _⟩) hS (fun q _ h9 => hFc q h9) hFc (fun u10 t H9 locs ht hvm hw hB hz1 hk1 hS => ?_)
      obtain ⟨hP, hK, hD⟩ := af_W hB ht hvm hFc
      clear hFc hB
      obtain ⟨eu10, hIu10⟩ := hw
      have hq1 : pX0_obeyTransfer u = u10 := (by subst eu10; subst er4; subst eu2; unfold pX0_obeyTransfer; first | (rw [if_neg c1, if_neg c7]; done) | (rw [if_neg c1, if_neg c7]; rfl))
      exact W.vret hx hb hr (fun t ht hW => ⟨⟨u10, rfl, ⟨hq1.symm, hIu10⟩, by rw [ht]; exact hP, va_K.moved hW.alike hK, hD⟩, hS.F ht⟩) hS.2.2 dX0_obeyTransfer_33
  · have hq1 : pX0_obeyTransfer u = u := (by unfold pX0_obeyTransfer; first | (rw [if_pos c1]; done) | (rw [if_pos c1]; rfl))
    exact W.vret hx hb hr (fun t ht hW => ⟨⟨u, rfl, ⟨hq1.symm, hI⟩, by rw [ht]; exact hP, va_K.moved hW.alike hK, hD⟩, hS.F ht⟩) hS.2.2 dX0_obeyTransfer_16
def pX0_obeyDirector (u : XS) : XS := if (pX0_isOn u) = 0 then (if (pX0_isAnyChannelSound u) = 0 then (u) else (pX0_goToBase u)) else (if (xe u) = 0 then (pX0_turnOff u 0) else (u))
set_option maxHeartbeats 4000000 in
set_option maxRecDepth 100000 in
theorem kX0_obeyDirector (l : Launch) (D : va_G) (cI cZ : ClassId) (h : Nat → Nat) (sz : Nat) (u : XS) (hI : InvX u) : Mv l yX0_obeyDirector wsX0_obeyDirector { frames := 3, cells := 0, slots := 0, locals := 66 } D (tyl cI cZ) (wX cI cZ h) sz u [.ref (h 0)] (fun u9 => u9 = pX0_obeyDirector u ∧ InvX u9) := by
  refine Met.ofW (cc := cX0_obeyDirector) (maxL := 1) (ret := none) (by decide) rfl ?_
  intro p e s m args below meth c s₁ B hml hv
  obtain ⟨rfl, hsz, hP, hK, hD0⟩ := hv
  have hx := B.exec
  have hb := B.bytes
  have hr := B.returns
  have hts := atoms_spec (ws := wsX0_obeyDirector) B.pre
  have hin : ∀ w ∈ wsX00, w ∈ wsX0_obeyDirector := fun w h9 => List.mem_cons_of_mem _ (List.mem_append_right _ h9)
  have hown : s.vm.findClass RX0 = some m.cls := findClass_of_methodNamed B.named
  have hlocks := B.notSynchronized
  subst hsz
  have hD : va_D (va_A (wX cI cZ h u) s.heap.size) (wX cI cZ h u) := hD0.self (sz := s.heap.size)
  have hA : ∀ q : Nat, s.heap.size ≤ q → va_A (wX cI cZ h u) s.heap.size q := fun q h9 => Or.inr h9
  have hS : va_S (va_A (wX cI cZ h u) s.heap.size) s.heap s.heap [] := va_S.rf
  have hl := lv_entry ([.ref (h 0)]) (n := 1) (Nat.le_of_ble_eq_true rfl)
  rw [lg_entry_eq]
  generalize (lg_sl ([.ref (h 0)]) ++ List.replicate (1 - (lg_sl ([.ref (h 0)])).length) Slot.unset).toArray = ls at hl ⊢
  have hl : lv_has ls 1 [(0, .ref (h 0))] := hl
  generalize va_A (wX cI cZ h u) s.heap.size = A at hD hA hS ⊢
  refine lv_aload_n hx hb dX0_obeyDirector_0 rfl (lv_at hl 0 rfl) ?_
  have hFc := va_free (wc := wX cI cZ h u) hD hS hA [0, 1, 2, 3, 4, 5] rfl
  refine va_calli (va_runV (As := []) (rest := []) ⟨hx, hb, hml, hown, hts⟩ (kX0_isOn l D cI cZ h s.heap.size u  hI) (cwV 0 hts gX0_obeyDirector_X0_isOn rfl rfl rfl (by decide +kernel) ⟨Nat.le_of_ble_eq_true rfl, Nat.le_of_ble_eq_true rfl⟩) ⟨bl_W, va_recv hK hP (ci := 0) (q0 := 0) rfl rfl, pr_W hP hK hD⟩ rfl rfl hl.1 rfl (lv_room (Nat.le_of_ble_eq_true rfl)) dX0_obeyDirector_1 ⟨Nat.zero_le _, Nat.zero_le _⟩) hS (fun q _ h9 => hFc q h9) hFc (fun r1 u3 t H2 locs ht hvm hw hB hz1 hk1 hS => ?_)
  obtain ⟨hP, hK, hD⟩ := af_W hB ht hvm hFc
  clear hFc hB
  obtain ⟨er1, eu3, br1⟩ := hw
  rw [eu3] at hP hD
  refine lv_if_ne (tgt := 21) hx hb dX0_obeyDirector_4 (by decide) (fun c4 => ?_) (fun c4 => ?_)
  · refine lv_aload_n hx hb dX0_obeyDirector_21 rfl (lv_at hl 0 rfl) ?_
    refine va_get (D := D) (ci := 0) (v := .int (xe u)) (C := RX0) (T := TX0) (N := 12) hx hb hts hin hown hK hP 0 rfl rfl 8 (by decide) (hts (.fieldLink RX0 63 "ModeDesk" "engaged" "Z") (by decide +kernel)) (fun _ h9 => h9) rfl dX0_obeyDirector_22 ?_
    refine lv_if_ne (tgt := 33) hx hb dX0_obeyDirector_25 (by decide) (fun c5 => ?_) (fun c5 => ?_)
    · have hq1 : pX0_obeyDirector u = u := (by subst er1; unfold pX0_obeyDirector; first | (rw [if_neg c4, if_neg c5]; done) | (rw [if_neg c4, if_neg c5]; rfl))
      exact W.vret hx hb hr (fun t ht hW => ⟨⟨u, rfl, ⟨hq1.symm, hI⟩, by rw [ht]; exact hP, va_K.moved hW.alike hK, hD⟩, hS.F ht⟩) hS.2.2 dX0_obeyDirector_33
    · refine lv_aload_n hx hb dX0_obeyDirector_28 rfl (lv_at hl 0 rfl) ?_
      refine lv_iconst (v := 0) hx hb dX0_obeyDirector_29 (by decide) ?_
      have hFc := va_free (wc := wX cI cZ h u) hD hS hA [0, 1, 2, 3, 4, 5] rfl
      refine va_callv (va_runV (As := [.int 0]) (rest := []) ⟨hx, hb, hml, hown, hts⟩ (kX0_turnOff l D cI cZ h H2.size u 0 hI) (cwV 1 hts gX0_obeyDirector_X0_turnOff rfl rfl rfl (by decide +kernel) ⟨Nat.le_of_ble_eq_true rfl, Nat.le_of_ble_eq_true rfl⟩) ⟨bl_W, va_recv hK hP (ci := 0) (q0 := 0) rfl rfl, pr_W hP hK hD⟩ rfl rfl hl.1 rfl (lv_room (Nat.le_of_ble_eq_true rfl)) dX0_obeyDirector_30 ⟨Nat.zero_le _, Nat.zero_le _⟩) hS (fun q _ h9 => hFc q h9) hFc (fun u8 t H7 locs ht hvm hw hB hz1 hk1 hS => ?_)
      obtain ⟨hP, hK, hD⟩ := af_W hB ht hvm hFc
      clear hFc hB
      obtain ⟨eu8, hIu8⟩ := hw
      have hq1 : pX0_obeyDirector u = u8 := (by subst eu8; subst er1; unfold pX0_obeyDirector; first | (rw [if_neg c4, if_pos c5]; done) | (rw [if_neg c4, if_pos c5]; rfl))
      exact W.vret hx hb hr (fun t ht hW => ⟨⟨u8, rfl, ⟨hq1.symm, hIu8⟩, by rw [ht]; exact hP, va_K.moved hW.alike hK, hD⟩, hS.F ht⟩) hS.2.2 dX0_obeyDirector_33
  · refine lv_aload_n hx hb dX0_obeyDirector_7 rfl (lv_at hl 0 rfl) ?_
    have hFc := va_free (wc := wX cI cZ h u) hD hS hA [0, 1, 2, 3, 4, 5] rfl
    refine va_calli (va_runV (As := []) (rest := []) ⟨hx, hb, hml, hown, hts⟩ (kX0_isAnyChannelSound l D cI cZ h H2.size u  hI) (cwV 0 hts gX0_obeyDirector_X0_isAnyChannelSound rfl rfl rfl (by decide +kernel) ⟨Nat.le_of_ble_eq_true rfl, Nat.le_of_ble_eq_true rfl⟩) ⟨bl_W, va_recv hK hP (ci := 0) (q0 := 0) rfl rfl, pr_W hP hK hD⟩ rfl rfl hl.1 rfl (lv_room (Nat.le_of_ble_eq_true rfl)) dX0_obeyDirector_8 ⟨Nat.zero_le _, Nat.zero_le _⟩) hS (fun q _ h9 => hFc q h9) hFc (fun r9 u11 t H10 locs ht hvm hw hB hz1 hk1 hS => ?_)
    obtain ⟨hP, hK, hD⟩ := af_W hB ht hvm hFc
    clear hFc hB
    obtain ⟨er9, eu11, br9⟩ := hw
    rw [eu11] at hP hD
    refine lv_if_eq (tgt := 33) hx hb dX0_obeyDirector_11 (by decide) (fun c12 => ?_) (fun c12 => ?_)
    · have hq1 : pX0_obeyDirector u = u := (by subst er9; subst er1; unfold pX0_obeyDirector; first | (rw [if_pos c4, if_pos c12]; done) | (rw [if_pos c4, if_pos c12]; rfl))
      exact W.vret hx hb hr (fun t ht hW => ⟨⟨u, rfl, ⟨hq1.symm, hI⟩, by rw [ht]; exact hP, va_K.moved hW.alike hK, hD⟩, hS.F ht⟩) hS.2.2 dX0_obeyDirector_33
    · refine lv_aload_n hx hb dX0_obeyDirector_14 rfl (lv_at hl 0 rfl) ?_
      have hFc := va_free (wc := wX cI cZ h u) hD hS hA [0, 1, 2, 3, 4, 5] rfl
      refine va_callv (va_runV (As := []) (rest := []) ⟨hx, hb, hml, hown, hts⟩ (kX0_goToBase l D cI cZ h H10.size u  hI) (cwV 0 hts gX0_obeyDirector_X0_goToBase rfl rfl rfl (by decide +kernel) ⟨Nat.le_of_ble_eq_true rfl, Nat.le_of_ble_eq_true rfl⟩) ⟨bl_W, va_recv hK hP (ci := 0) (q0 := 0) rfl rfl, pr_W hP hK hD⟩ rfl rfl hl.1 rfl (lv_room (Nat.le_of_ble_eq_true rfl)) dX0_obeyDirector_15 ⟨Nat.zero_le _, Nat.zero_le _⟩) hS (fun q _ h9 => hFc q h9) hFc (fun u15 t H14 locs ht hvm hw hB hz1 hk1 hS => ?_)
      obtain ⟨hP, hK, hD⟩ := af_W hB ht hvm hFc
      clear hFc hB
      obtain ⟨eu15, hIu15⟩ := hw
      refine lv_goto (tgt := 33) hx hb dX0_obeyDirector_18 (by decide) ?_
      have hq1 : pX0_obeyDirector u = u15 := (by subst eu15; subst er9; subst er1; unfold pX0_obeyDirector; first | (rw [if_pos c4, if_neg c12]; done) | (rw [if_pos c4, if_neg c12]; rfl))
      exact W.vret hx hb hr (fun t ht hW => ⟨⟨u15, rfl, ⟨hq1.symm, hIu15⟩, by rw [ht]; exact hP, va_K.moved hW.alike hK, hD⟩, hS.F ht⟩) hS.2.2 dX0_obeyDirector_33
