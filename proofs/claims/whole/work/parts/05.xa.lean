def pX0_bit (a1 a2 : Int32) : Int32 := if a1 = 0 then (0) else (a2)
set_option maxHeartbeats 4000000 in
set_option maxRecDepth 100000 in
theorem kX0_bit (l : Launch) (D : va_G) (tys : List (ClassId × FieldType)) (sz : Nat) (a1 a2 : Int32) : Mi l yX0_bit wsX0_bit { frames := 0, cells := 0, slots := 0, locals := 0 } D tys wE sz () [.int a1, .int a2] (fun r _ => r = pX0_bit a1 a2) := by
  refine Met.ofW (cc := cX0_bit) (maxL := 2) (ret := (some .int)) (by decide) rfl ?_
  intro p e s m args below meth c s₁ B hml hv
  obtain ⟨rfl, hsz, hP, hK, hD0⟩ := hv
  have hx := B.exec
  have hb := B.bytes
  have hr := B.returns
  have hts := atoms_spec (ws := wsX0_bit) B.pre
  have hown : s.vm.findClass RX0 = some m.cls := findClass_of_methodNamed B.named
  have hlocks := B.notSynchronized
  subst hsz
  have hD : va_D (va_A (wE ()) s.heap.size) (wE ()) := hD0.self (sz := s.heap.size)
  have hA : ∀ q : Nat, s.heap.size ≤ q → va_A (wE ()) s.heap.size q := fun q h9 => Or.inr h9
  have hS : va_S (va_A (wE ()) s.heap.size) s.heap s.heap [] := va_S.rf
  have hl := lv_entry ([.int a1, .int a2]) (n := 2) (Nat.le_of_ble_eq_true rfl)
  rw [lg_entry_eq]
  generalize (lg_sl ([.int a1, .int a2]) ++ List.replicate (2 - (lg_sl ([.int a1, .int a2])).length) Slot.unset).toArray = ls at hl ⊢
  have hl : lv_has ls 2 [(0, .int a1), (1, .int a2)] := hl
  generalize va_A (wE ()) s.heap.size = A at hD hA hS ⊢
  refine lv_iload_n hx hb dX0_bit_0 rfl (lv_at hl 0 rfl) ?_
  refine lv_if_eq (tgt := 8) hx hb dX0_bit_1 (by decide) (fun c1 => ?_) (fun c1 => ?_)
  · refine lv_iconst (v := 0) hx hb dX0_bit_8 (by decide) ?_
    have hq1 : pX0_bit a1 a2 = 0 := (by unfold pX0_bit; first | (rw [if_pos c1]; done) | (rw [if_pos c1]; rfl))
    exact W.iret (v := 0) hx hb hr (fun t ht hW => ⟨⟨0, (), rfl, hq1.symm, by rw [ht]; exact hP, va_K.moved hW.alike hK, hD⟩, hS.F ht⟩) hS.2.2 dX0_bit_9
  · refine lv_iload_n hx hb dX0_bit_4 rfl (lv_at hl 1 rfl) ?_
    refine lv_goto (tgt := 9) hx hb dX0_bit_5 (by decide) ?_
    have hq1 : pX0_bit a1 a2 = a2 := (by unfold pX0_bit; first | (rw [if_neg c1]; done) | (rw [if_neg c1]; rfl))
    exact W.iret (v := a2) hx hb hr (fun t ht hW => ⟨⟨a2, (), rfl, hq1.symm, by rw [ht]; exact hP, va_K.moved hW.alike hK, hD⟩, hS.F ht⟩) hS.2.2 dX0_bit_9
def pX0_isMeasure (a1 : Int32) : Int32 := if a1 < 0 then (0) else (if 7 ≤ a1 then (0) else (1))
set_option maxHeartbeats 4000000 in
set_option maxRecDepth 100000 in
theorem kX0_isMeasure (l : Launch) (D : va_G) (tys : List (ClassId × FieldType)) (sz : Nat) (a1 : Int32) : Mi l yX0_isMeasure wsX0_isMeasure { frames := 0, cells := 0, slots := 0, locals := 0 } D tys wE sz () [.int a1] (fun r _ => r = pX0_isMeasure a1 ∧ bz r) := by
  refine Met.ofW (cc := cX0_isMeasure) (maxL := 1) (ret := (some .boolean)) (by decide) rfl ?_
  intro p e s m args below meth c s₁ B hml hv
  obtain ⟨rfl, hsz, hP, hK, hD0⟩ := hv
  have hx := B.exec
  have hb := B.bytes
  have hr := B.returns
  have hts := atoms_spec (ws := wsX0_isMeasure) B.pre
  have hown : s.vm.findClass RX0 = some m.cls := findClass_of_methodNamed B.named
  have hlocks := B.notSynchronized
  subst hsz
  have hD : va_D (va_A (wE ()) s.heap.size) (wE ()) := hD0.self (sz := s.heap.size)
  have hA : ∀ q : Nat, s.heap.size ≤ q → va_A (wE ()) s.heap.size q := fun q h9 => Or.inr h9
  have hS : va_S (va_A (wE ()) s.heap.size) s.heap s.heap [] := va_S.rf
  have hl := lv_entry ([.int a1]) (n := 1) (Nat.le_of_ble_eq_true rfl)
  rw [lg_entry_eq]
  generalize (lg_sl ([.int a1]) ++ List.replicate (1 - (lg_sl ([.int a1])).length) Slot.unset).toArray = ls at hl ⊢
  have hl : lv_has ls 1 [(0, .int a1)] := hl
  generalize va_A (wE ()) s.heap.size = A at hD hA hS ⊢
  refine lv_iload_n hx hb dX0_isMeasure_0 rfl (lv_at hl 0 rfl) ?_
  refine lv_if_lt (tgt := 14) hx hb dX0_isMeasure_1 (by decide) (fun c1 => ?_) (fun c1 => ?_)
  · refine lv_iconst (v := 0) hx hb dX0_isMeasure_14 (by decide) ?_
    have hq1 : pX0_isMeasure a1 = 0 := (by unfold pX0_isMeasure; first | (rw [if_pos c1]; done) | (rw [if_pos c1]; rfl))
    exact W.zret (v := 0) hx hb hr (bz_n bz0) (fun t ht hW => ⟨⟨0, (), rfl, ⟨hq1.symm, bz0⟩, by rw [ht]; exact hP, va_K.moved hW.alike hK, hD⟩, hS.F ht⟩) hS.2.2 dX0_isMeasure_15
  · refine lv_iload_n hx hb dX0_isMeasure_4 rfl (lv_at hl 0 rfl) ?_
    refine lv_bipush (v := 7) hx hb dX0_isMeasure_5 (by decide) ?_
    refine lv_icmp_ge (tgt := 14) hx hb dX0_isMeasure_7 (by decide) (fun c2 => ?_) (fun c2 => ?_)
    · refine lv_iconst (v := 0) hx hb dX0_isMeasure_14 (by decide) ?_
      have hq1 : pX0_isMeasure a1 = 0 := (by unfold pX0_isMeasure; first | (rw [if_neg c1, if_pos c2]; done) | (rw [if_neg c1, if_pos c2]; rfl))
      exact W.zret (v := 0) hx hb hr (bz_n bz0) (fun t ht hW => ⟨⟨0, (), rfl, ⟨hq1.symm, bz0⟩, by rw [ht]; exact hP, va_K.moved hW.alike hK, hD⟩, hS.F ht⟩) hS.2.2 dX0_isMeasure_15
    · refine lv_iconst (v := 1) hx hb dX0_isMeasure_10 (by decide) ?_
      refine lv_goto (tgt := 15) hx hb dX0_isMeasure_11 (by decide) ?_
      have hq1 : pX0_isMeasure a1 = 1 := (by unfold pX0_isMeasure; first | (rw [if_neg c1, if_neg c2]; done) | (rw [if_neg c1, if_neg c2]; rfl))
      exact W.zret (v := 1) hx hb hr (bz_n bz1) (fun t ht hW => ⟨⟨1, (), rfl, ⟨hq1.symm, bz1⟩, by rw [ht]; exact hP, va_K.moved hW.alike hK, hD⟩, hS.F ht⟩) hS.2.2 dX0_isMeasure_15
def pX0_isOn (u : XS) : Int32 := if (xA u (Int32.toNatClampNeg 0)) = 0 then (0) else (1)
set_option maxHeartbeats 4000000 in
set_option maxRecDepth 100000 in
theorem kX0_isOn (l : Launch) (D : va_G) (cI cZ : ClassId) (h : Nat → Nat) (sz : Nat) (u : XS) (hI : InvX u) : Mi l yX0_isOn wsX0_isOn { frames := 0, cells := 0, slots := 0, locals := 0 } D (tyl cI cZ) (wX cI cZ h) sz u [.ref (h 0)] (fun r u9 => r = pX0_isOn u ∧ u9 = u ∧ bz r) := by
  refine Met.ofW (cc := cX0_isOn) (maxL := 1) (ret := (some .boolean)) (by decide) rfl ?_
  intro p e s m args below meth c s₁ B hml hv
  obtain ⟨rfl, hsz, hP, hK, hD0⟩ := hv
  have hx := B.exec
  have hb := B.bytes
  have hr := B.returns
  have hts := atoms_spec (ws := wsX0_isOn) B.pre
  have hin : ∀ w ∈ wsX00, w ∈ wsX0_isOn := fun w h9 => List.mem_cons_of_mem _ (List.mem_append_right _ h9)
  have hown : s.vm.findClass RX0 = some m.cls := findClass_of_methodNamed B.named
  have hlocks := B.notSynchronized
  subst hsz
  have hD : va_D (va_A (wX cI cZ h u) s.heap.size) (wX cI cZ h u) := hD0.self (sz := s.heap.size)
  have hA : ∀ q : Nat, s.heap.size ≤ q → va_A (wX cI cZ h u) s.heap.size q := fun q h9 => Or.inr h9
  have hS : va_S (va_A (wX cI cZ h u) s.heap.size) s.heap s.heap [] := va_S.rf
  have hl := lv_entry ([.ref (h 0)]) (n := 1) (Nat.le_of_ble_eq_true rfl)
  rw [lg_entry_eq]
  generalize (lg_sl ([.ref (h 0)]) ++ List.replicate (1 - (lg_sl ([.ref (h 0)])).length) Slot.unset).toArray = ls at hl ⊢
  have hl : lv_has ls 1 [(0, .ref (h 0))] := hl
  generalize va_A (wX cI cZ h u) s.heap.size = A at hD hA hS ⊢
  refine lv_aload_n hx hb dX0_isOn_0 rfl (lv_at hl 0 rfl) ?_
  refine va_get (D := D) (ci := 0) (v := .ref (h 1)) (C := RX0) (T := TX0) (N := 12) hx hb hts hin hown hK hP 0 rfl rfl 0 (by decide) (hts (.fieldLink RX0 7 "ModeDesk" "active" "[I") (by decide +kernel)) (fun _ h9 => h9) rfl dX0_isOn_1 ?_
  refine lv_iconst (v := 0) hx hb dX0_isOn_4 (by decide) ?_
  refine va_iald hx hb hK hP 1 0 rfl rfl (vi_c (by decide)) dX0_isOn_5 ?_
  refine lv_if_eq (tgt := 13) hx hb dX0_isOn_6 (by decide) (fun c1 => ?_) (fun c1 => ?_)
  · refine lv_iconst (v := 0) hx hb dX0_isOn_13 (by decide) ?_
    have hq1 : pX0_isOn u = 0 := (by unfold pX0_isOn; first | (rw [if_pos c1]; done) | (rw [if_pos c1]; rfl))
    exact W.zret (v := 0) hx hb hr (bz_n bz0) (fun t ht hW => ⟨⟨0, u, rfl, ⟨hq1.symm, rfl, bz0⟩, by rw [ht]; exact hP, va_K.moved hW.alike hK, hD⟩, hS.F ht⟩) hS.2.2 dX0_isOn_14
  · refine lv_iconst (v := 1) hx hb dX0_isOn_9 (by decide) ?_
    refine lv_goto (tgt := 14) hx hb dX0_isOn_10 (by decide) ?_
    have hq1 : pX0_isOn u = 1 := (by unfold pX0_isOn; first | (rw [if_neg c1]; done) | (rw [if_neg c1]; rfl))
    exact W.zret (v := 1) hx hb hr (bz_n bz1) (fun t ht hW => ⟨⟨1, u, rfl, ⟨hq1.symm, rfl, bz1⟩, by rw [ht]; exact hP, va_K.moved hW.alike hK, hD⟩, hS.F ht⟩) hS.2.2 dX0_isOn_14
def pX0_isAnyChannelSound (u : XS) : Int32 := if (xS u (Int32.toNatClampNeg 0)) = 0 then (if (xS u (Int32.toNatClampNeg 1)) = 0 then (0) else (1)) else (1)
set_option maxHeartbeats 4000000 in
set_option maxRecDepth 100000 in
theorem kX0_isAnyChannelSound (l : Launch) (D : va_G) (cI cZ : ClassId) (h : Nat → Nat) (sz : Nat) (u : XS) (hI : InvX u) : Mi l yX0_isAnyChannelSound wsX0_isAnyChannelSound { frames := 0, cells := 0, slots := 0, locals := 0 } D (tyl cI cZ) (wX cI cZ h) sz u [.ref (h 0)] (fun r u9 => r = pX0_isAnyChannelSound u ∧ u9 = u ∧ bz r) := by
  refine Met.ofW (cc := cX0_isAnyChannelSound) (maxL := 1) (ret := (some .boolean)) (by decide) rfl ?_
  intro p e s m args below meth c s₁ B hml hv
  obtain ⟨rfl, hsz, hP, hK, hD0⟩ := hv
  have hx := B.exec
  have hb := B.bytes
  have hr := B.returns
  have hts := atoms_spec (ws := wsX0_isAnyChannelSound) B.pre
  have hin : ∀ w ∈ wsX00, w ∈ wsX0_isAnyChannelSound := fun w h9 => List.mem_cons_of_mem _ (List.mem_append_right _ h9)
  have hown : s.vm.findClass RX0 = some m.cls := findClass_of_methodNamed B.named
  have hlocks := B.notSynchronized
  subst hsz
  have hD : va_D (va_A (wX cI cZ h u) s.heap.size) (wX cI cZ h u) := hD0.self (sz := s.heap.size)
  have hA : ∀ q : Nat, s.heap.size ≤ q → va_A (wX cI cZ h u) s.heap.size q := fun q h9 => Or.inr h9
  have hS : va_S (va_A (wX cI cZ h u) s.heap.size) s.heap s.heap [] := va_S.rf
  have hl := lv_entry ([.ref (h 0)]) (n := 1) (Nat.le_of_ble_eq_true rfl)
  rw [lg_entry_eq]
  generalize (lg_sl ([.ref (h 0)]) ++ List.replicate (1 - (lg_sl ([.ref (h 0)])).length) Slot.unset).toArray = ls at hl ⊢
  have hl : lv_has ls 1 [(0, .ref (h 0))] := hl
  generalize va_A (wX cI cZ h u) s.heap.size = A at hD hA hS ⊢
  refine lv_aload_n hx hb dX0_isAnyChannelSound_0 rfl (lv_at hl 0 rfl) ?_
  refine va_get (D := D) (ci := 0) (v := .ref (h 4)) (C := RX0) (T := TX0) (N := 12) hx hb hts hin hown hK hP 0 rfl rfl 3 (by decide) (hts (.fieldLink RX0 19 "ModeDesk" "soundness" "[Z") (by decide +kernel)) (fun _ h9 => h9) rfl dX0_isAnyChannelSound_1 ?_
  refine lv_iconst (v := 0) hx hb dX0_isAnyChannelSound_4 (by decide) ?_
  refine va_zald hx hb hK hP 4 1 rfl rfl (vi_c (by decide)) dX0_isAnyChannelSound_5 ?_
  refine lv_if_ne (tgt := 18) hx hb dX0_isAnyChannelSound_6 (by decide) (fun c1 => ?_) (fun c1 => ?_)
  · refine lv_iconst (v := 1) hx hb dX0_isAnyChannelSound_18 (by decide) ?_
    refine lv_goto (tgt := 23) hx hb dX0_isAnyChannelSound_19 (by decide) ?_
    have hq1 : pX0_isAnyChannelSound u = 1 := (by unfold pX0_isAnyChannelSound; first | (rw [if_neg c1]; done) | (rw [if_neg c1]; rfl))
    exact W.zret (v := 1) hx hb hr (bz_n bz1) (fun t ht hW => ⟨⟨1, u, rfl, ⟨hq1.symm, rfl, bz1⟩, by rw [ht]; exact hP, va_K.moved hW.alike hK, hD⟩, hS.F ht⟩) hS.2.2 dX0_isAnyChannelSound_23
  · refine lv_aload_n hx hb dX0_isAnyChannelSound_9 rfl (lv_at hl 0 rfl) ?_
    refine va_get (D := D) (ci := 0) (v := .ref (h 4)) (C := RX0) (T := TX0) (N := 12) hx hb hts hin hown hK hP 0 rfl rfl 3 (by decide) (hts (.fieldLink RX0 19 "ModeDesk" "soundness" "[Z") (by decide +kernel)) (fun _ h9 => h9) rfl dX0_isAnyChannelSound_10 ?_
    refine lv_iconst (v := 1) hx hb dX0_isAnyChannelSound_13 (by decide) ?_
    refine va_zald hx hb hK hP 4 1 rfl rfl (vi_c (by decide)) dX0_isAnyChannelSound_14 ?_
    refine lv_if_eq (tgt := 22) hx hb dX0_isAnyChannelSound_15 (by decide) (fun c2 => ?_) (fun c2 => ?_)
    · refine lv_iconst (v := 0) hx hb dX0_isAnyChannelSound_22 (by decide) ?_
      have hq1 : pX0_isAnyChannelSound u = 0 := (by unfold pX0_isAnyChannelSound; first | (rw [if_pos c1, if_pos c2]; done) | (rw [if_pos c1, if_pos c2]; rfl))
      exact W.zret (v := 0) hx hb hr (bz_n bz0) (fun t ht hW => ⟨⟨0, u, rfl, ⟨hq1.symm, rfl, bz0⟩, by rw [ht]; exact hP, va_K.moved hW.alike hK, hD⟩, hS.F ht⟩) hS.2.2 dX0_isAnyChannelSound_23
    · refine lv_iconst (v := 1) hx hb dX0_isAnyChannelSound_18 (by decide) ?_
      refine lv_goto (tgt := 23) hx hb dX0_isAnyChannelSound_19 (by decide) ?_
      have hq1 : pX0_isAnyChannelSound u = 1 := (by unfold pX0_isAnyChannelSound; first | (rw [if_pos c1, if_neg c2]; done) | (rw [if_pos c1, if_neg c2]; rfl))
      exact W.zret (v := 1) hx hb hr (bz_n bz1) (fun t ht hW => ⟨⟨1, u, rfl, ⟨hq1.symm, rfl, bz1⟩, by rw [ht]; exact hP, va_K.moved hW.alike hK, hD⟩, hS.F ht⟩) hS.2.2 dX0_isAnyChannelSound_23
def pX0_isAroundAnywhere (u : XS) : Int32 := if (xA u (Int32.toNatClampNeg 0)) = 5 then (1) else (if (xA u (Int32.toNatClampNeg 1)) = 7 then (1) else (0))
set_option maxHeartbeats 4000000 in
set_option maxRecDepth 100000 in
theorem kX0_isAroundAnywhere (l : Launch) (D : va_G) (cI cZ : ClassId) (h : Nat → Nat) (sz : Nat) (u : XS) (hI : InvX u) : Mi l yX0_isAroundAnywhere wsX0_isAroundAnywhere { frames := 0, cells := 0, slots := 0, locals := 0 } D (tyl cI cZ) (wX cI cZ h) sz u [.ref (h 0)] (fun r u9 => r = pX0_isAroundAnywhere u ∧ u9 = u ∧ bz r) := by
  refine Met.ofW (cc := cX0_isAroundAnywhere) (maxL := 1) (ret := (some .boolean)) (by decide) rfl ?_
  intro p e s m args below meth c s₁ B hml hv
  obtain ⟨rfl, hsz, hP, hK, hD0⟩ := hv
  have hx := B.exec
  have hb := B.bytes
  have hr := B.returns
  have hts := atoms_spec (ws := wsX0_isAroundAnywhere) B.pre
  have hin : ∀ w ∈ wsX00, w ∈ wsX0_isAroundAnywhere := fun w h9 => List.mem_cons_of_mem _ (List.mem_append_right _ h9)
  have hown : s.vm.findClass RX0 = some m.cls := findClass_of_methodNamed B.named
  have hlocks := B.notSynchronized
  subst hsz
  have hD : va_D (va_A (wX cI cZ h u) s.heap.size) (wX cI cZ h u) := hD0.self (sz := s.heap.size)
  have hA : ∀ q : Nat, s.heap.size ≤ q → va_A (wX cI cZ h u) s.heap.size q := fun q h9 => Or.inr h9
  have hS : va_S (va_A (wX cI cZ h u) s.heap.size) s.heap s.heap [] := va_S.rf
  have hl := lv_entry ([.ref (h 0)]) (n := 1) (Nat.le_of_ble_eq_true rfl)
  rw [lg_entry_eq]
  generalize (lg_sl ([.ref (h 0)]) ++ List.replicate (1 - (lg_sl ([.ref (h 0)])).length) Slot.unset).toArray = ls at hl ⊢
  have hl : lv_has ls 1 [(0, .ref (h 0))] := hl
  generalize va_A (wX cI cZ h u) s.heap.size = A at hD hA hS ⊢
  refine lv_aload_n hx hb dX0_isAroundAnywhere_0 rfl (lv_at hl 0 rfl) ?_
  refine va_get (D := D) (ci := 0) (v := .ref (h 1)) (C := RX0) (T := TX0) (N := 12) hx hb hts hin hown hK hP 0 rfl rfl 0 (by decide) (hts (.fieldLink RX0 7 "ModeDesk" "active" "[I") (by decide +kernel)) (fun _ h9 => h9) rfl dX0_isAroundAnywhere_1 ?_
  refine lv_iconst (v := 0) hx hb dX0_isAroundAnywhere_4 (by decide) ?_
  refine va_iald hx hb hK hP 1 0 rfl rfl (vi_c (by decide)) dX0_isAroundAnywhere_5 ?_
  refine lv_iconst (v := 5) hx hb dX0_isAroundAnywhere_6 (by decide) ?_
  refine lv_icmp_eq (tgt := 21) hx hb dX0_isAroundAnywhere_7 (by decide) (fun c1 => ?_) (fun c1 => ?_)
  · refine lv_iconst (v := 1) hx hb dX0_isAroundAnywhere_21 (by decide) ?_
    refine lv_goto (tgt := 26) hx hb dX0_isAroundAnywhere_22 (by decide) ?_
    have hq1 : pX0_isAroundAnywhere u = 1 := (by unfold pX0_isAroundAnywhere; first | (rw [if_pos c1]; done) | (rw [if_pos c1]; rfl))
    exact W.zret (v := 1) hx hb hr (bz_n bz1) (fun t ht hW => ⟨⟨1, u, rfl, ⟨hq1.symm, rfl, bz1⟩, by rw [ht]; exact hP, va_K.moved hW.alike hK, hD⟩, hS.F ht⟩) hS.2.2 dX0_isAroundAnywhere_26
  · refine lv_aload_n hx hb dX0_isAroundAnywhere_10 rfl (lv_at hl 0 rfl) ?_
    refine va_get (D := D) (ci := 0) (v := .ref (h 1)) (C := RX0) (T := TX0) (N := 12) hx hb hts hin hown hK hP 0 rfl rfl 0 (by decide) (hts (.fieldLink RX0 7 "ModeDesk" "active" "[I") (by decide +kernel)) (fun _ h9 => h9) rfl dX0_isAroundAnywhere_11 ?_
    refine lv_iconst (v := 1) hx hb dX0_isAroundAnywhere_14 (by decide) ?_
    refine va_iald hx hb hK hP 1 0 rfl rfl (vi_c (by decide)) dX0_isAroundAnywhere_15 ?_
    refine lv_bipush (v := 7) hx hb dX0_isAroundAnywhere_16 (by decide) ?_
    refine lv_icmp_ne (tgt := 25) hx hb dX0_isAroundAnywhere_18 (by decide) (fun c2 => ?_) (fun c2 => ?_)
    · refine lv_iconst (v := 0) hx hb dX0_isAroundAnywhere_25 (by decide) ?_
      have hq1 : pX0_isAroundAnywhere u = 0 := (by unfold pX0_isAroundAnywhere; first | (rw [if_neg c1, if_neg c2]; done) | (rw [if_neg c1, if_neg c2]; rfl))
      exact W.zret (v := 0) hx hb hr (bz_n bz0) (fun t ht hW => ⟨⟨0, u, rfl, ⟨hq1.symm, rfl, bz0⟩, by rw [ht]; exact hP, va_K.moved hW.alike hK, hD⟩, hS.F ht⟩) hS.2.2 dX0_isAroundAnywhere_26
    · refine lv_iconst (v := 1) hx hb dX0_isAroundAnywhere_21 (by decide) ?_
      refine lv_goto (tgt := 26) hx hb dX0_isAroundAnywhere_22 (by decide) ?_
      have hq1 : pX0_isAroundAnywhere u = 1 := (by unfold pX0_isAroundAnywhere; first | (rw [if_neg c1, if_pos c2]; done) | (rw [if_neg c1, if_pos c2]; rfl))
      exact W.zret (v := 1) hx hb hr (bz_n bz1) (fun t ht hW => ⟨⟨1, u, rfl, ⟨hq1.symm, rfl, bz1⟩, by rw [ht]; exact hP, va_K.moved hW.alike hK, hD⟩, hS.F ht⟩) hS.2.2 dX0_isAroundAnywhere_26
def pX0_isTooFast (u : XS) : Int32 := if (xM u (Int32.toNatClampNeg 4)) ≤ 400 then (0) else (1)
set_option maxHeartbeats 4000000 in
set_option maxRecDepth 100000 in
theorem kX0_isTooFast (l : Launch) (D : va_G) (cI cZ : ClassId) (h : Nat → Nat) (sz : Nat) (u : XS) (hI : InvX u) : Mi l yX0_isTooFast wsX0_isTooFast { frames := 0, cells := 0, slots := 0, locals := 0 } D (tyl cI cZ) (wX cI cZ h) sz u [.ref (h 0)] (fun r u9 => r = pX0_isTooFast u ∧ u9 = u ∧ bz r) := by
  refine Met.ofW (cc := cX0_isTooFast) (maxL := 1) (ret := (some .boolean)) (by decide) rfl ?_
  intro p e s m args below meth c s₁ B hml hv
  obtain ⟨rfl, hsz, hP, hK, hD0⟩ := hv
  have hx := B.exec
  have hb := B.bytes
  have hr := B.returns
  have hts := atoms_spec (ws := wsX0_isTooFast) B.pre
  have hin : ∀ w ∈ wsX00, w ∈ wsX0_isTooFast := fun w h9 => List.mem_cons_of_mem _ (List.mem_append_right _ h9)
  have hown : s.vm.findClass RX0 = some m.cls := findClass_of_methodNamed B.named
  have hlocks := B.notSynchronized
  subst hsz
  have hD : va_D (va_A (wX cI cZ h u) s.heap.size) (wX cI cZ h u) := hD0.self (sz := s.heap.size)
  have hA : ∀ q : Nat, s.heap.size ≤ q → va_A (wX cI cZ h u) s.heap.size q := fun q h9 => Or.inr h9
  have hS : va_S (va_A (wX cI cZ h u) s.heap.size) s.heap s.heap [] := va_S.rf
  have hl := lv_entry ([.ref (h 0)]) (n := 1) (Nat.le_of_ble_eq_true rfl)
  rw [lg_entry_eq]
  generalize (lg_sl ([.ref (h 0)]) ++ List.replicate (1 - (lg_sl ([.ref (h 0)])).length) Slot.unset).toArray = ls at hl ⊢
  have hl : lv_has ls 1 [(0, .ref (h 0))] := hl
  generalize va_A (wX cI cZ h u) s.heap.size = A at hD hA hS ⊢
  refine lv_aload_n hx hb dX0_isTooFast_0 rfl (lv_at hl 0 rfl) ?_
  refine va_get (D := D) (ci := 0) (v := .ref (h 3)) (C := RX0) (T := TX0) (N := 12) hx hb hts hin hown hK hP 0 rfl rfl 2 (by decide) (hts (.fieldLink RX0 16 "ModeDesk" "measures" "[I") (by decide +kernel)) (fun _ h9 => h9) rfl dX0_isTooFast_1 ?_
  refine lv_iconst (v := 4) hx hb dX0_isTooFast_4 (by decide) ?_
  refine va_iald hx hb hK hP 3 0 rfl rfl (vi_c (by decide)) dX0_isTooFast_5 ?_
  refine lv_sipush (v := 400) hx hb dX0_isTooFast_6 (by decide) ?_
  refine lv_icmp_le (tgt := 16) hx hb dX0_isTooFast_9 (by decide) (fun c1 => ?_) (fun c1 => ?_)
  · refine lv_iconst (v := 0) hx hb dX0_isTooFast_16 (by decide) ?_
    have hq1 : pX0_isTooFast u = 0 := (by unfold pX0_isTooFast; first | (rw [if_pos c1]; done) | (rw [if_pos c1]; rfl))
    exact W.zret (v := 0) hx hb hr (bz_n bz0) (fun t ht hW => ⟨⟨0, u, rfl, ⟨hq1.symm, rfl, bz0⟩, by rw [ht]; exact hP, va_K.moved hW.alike hK, hD⟩, hS.F ht⟩) hS.2.2 dX0_isTooFast_17
  · refine lv_iconst (v := 1) hx hb dX0_isTooFast_12 (by decide) ?_
    refine lv_goto (tgt := 17) hx hb dX0_isTooFast_13 (by decide) ?_
    have hq1 : pX0_isTooFast u = 1 := (by unfold pX0_isTooFast; first | (rw [if_neg c1]; done) | (rw [if_neg c1]; rfl))
    exact W.zret (v := 1) hx hb hr (bz_n bz1) (fun t ht hW => ⟨⟨1, u, rfl, ⟨hq1.symm, rfl, bz1⟩, by rw [ht]; exact hP, va_K.moved hW.alike hK, hD⟩, hS.F ht⟩) hS.2.2 dX0_isTooFast_17
def pX0_isCaptureArmed (u : XS) : Int32 := if (xA u (Int32.toNatClampNeg 1)) = 1 then (1) else (if (xA u (Int32.toNatClampNeg 1)) = 2 then (1) else (if (xA u (Int32.toNatClampNeg 1)) = 3 then (1) else (0)))
set_option maxHeartbeats 4000000 in
set_option maxRecDepth 100000 in
theorem kX0_isCaptureArmed (l : Launch) (D : va_G) (cI cZ : ClassId) (h : Nat → Nat) (sz : Nat) (u : XS) (hI : InvX u) : Mi l yX0_isCaptureArmed wsX0_isCaptureArmed { frames := 0, cells := 0, slots := 0, locals := 0 } D (tyl cI cZ) (wX cI cZ h) sz u [.ref (h 0)] (fun r u9 => r = pX0_isCaptureArmed u ∧ u9 = u ∧ bz r) := by
  refine Met.ofW (cc := cX0_isCaptureArmed) (maxL := 2) (ret := (some .boolean)) (by decide) rfl ?_
  intro p e s m args below meth c s₁ B hml hv
  obtain ⟨rfl, hsz, hP, hK, hD0⟩ := hv
  have hx := B.exec
  have hb := B.bytes
  have hr := B.returns
  have hts := atoms_spec (ws := wsX0_isCaptureArmed) B.pre
  have hin : ∀ w ∈ wsX00, w ∈ wsX0_isCaptureArmed := fun w h9 => List.mem_cons_of_mem _ (List.mem_append_right _ h9)
  have hown : s.vm.findClass RX0 = some m.cls := findClass_of_methodNamed B.named
  have hlocks := B.notSynchronized
  subst hsz
  have hD : va_D (va_A (wX cI cZ h u) s.heap.size) (wX cI cZ h u) := hD0.self (sz := s.heap.size)
  have hA : ∀ q : Nat, s.heap.size ≤ q → va_A (wX cI cZ h u) s.heap.size q := fun q h9 => Or.inr h9
  have hS : va_S (va_A (wX cI cZ h u) s.heap.size) s.heap s.heap [] := va_S.rf
  have hl := lv_entry ([.ref (h 0)]) (n := 2) (Nat.le_of_ble_eq_true rfl)
  rw [lg_entry_eq]
  generalize (lg_sl ([.ref (h 0)]) ++ List.replicate (2 - (lg_sl ([.ref (h 0)])).length) Slot.unset).toArray = ls at hl ⊢
  have hl : lv_has ls 2 [(0, .ref (h 0))] := hl
  generalize va_A (wX cI cZ h u) s.heap.size = A at hD hA hS ⊢
  refine lv_aload_n hx hb dX0_isCaptureArmed_0 rfl (lv_at hl 0 rfl) ?_
  refine va_get (D := D) (ci := 0) (v := .ref (h 1)) (C := RX0) (T := TX0) (N := 12) hx hb hts hin hown hK hP 0 rfl rfl 0 (by decide) (hts (.fieldLink RX0 7 "ModeDesk" "active" "[I") (by decide +kernel)) (fun _ h9 => h9) rfl dX0_isCaptureArmed_1 ?_
  refine lv_iconst (v := 1) hx hb dX0_isCaptureArmed_4 (by decide) ?_
  refine va_iald hx hb hK hP 1 0 rfl rfl (vi_c (by decide)) dX0_isCaptureArmed_5 ?_
  refine lv_istore_n (lv' := [(1, .int (xA u (Int32.toNatClampNeg 1))), (0, .ref (h 0))]) hx hb dX0_isCaptureArmed_6 rfl hl (by decide) rfl (fun ls hl => ?_)
  refine lv_iload_n hx hb dX0_isCaptureArmed_7 rfl (lv_at hl 0 rfl) ?_
  refine lv_iconst (v := 1) hx hb dX0_isCaptureArmed_8 (by decide) ?_
  refine lv_icmp_eq (tgt := 22) hx hb dX0_isCaptureArmed_9 (by decide) (fun c1 => ?_) (fun c1 => ?_)
  · refine lv_iconst (v := 1) hx hb dX0_isCaptureArmed_22 (by decide) ?_
    refine lv_goto (tgt := 27) hx hb dX0_isCaptureArmed_23 (by decide) ?_
    have hq1 : pX0_isCaptureArmed u = 1 := (by unfold pX0_isCaptureArmed; first | (rw [if_pos c1]; done) | (rw [if_pos c1]; rfl))
    exact W.zret (v := 1) hx hb hr (bz_n bz1) (fun t ht hW => ⟨⟨1, u, rfl, ⟨hq1.symm, rfl, bz1⟩, by rw [ht]; exact hP, va_K.moved hW.alike hK, hD⟩, hS.F ht⟩) hS.2.2 dX0_isCaptureArmed_27
  · refine lv_iload_n hx hb dX0_isCaptureArmed_12 rfl (lv_at hl 0 rfl) ?_
    refine lv_iconst (v := 2) hx hb dX0_isCaptureArmed_13 (by decide) ?_
    refine lv_icmp_eq (tgt := 22) hx hb dX0_isCaptureArmed_14 (by decide) (fun c2 => ?_) (fun c2 => ?_)
    · refine lv_iconst (v := 1) hx hb dX0_isCaptureArmed_22 (by decide) ?_
      refine lv_goto (tgt := 27) hx hb dX0_isCaptureArmed_23 (by decide) ?_
      have hq1 : pX0_isCaptureArmed u = 1 := (by unfold pX0_isCaptureArmed; first | (rw [if_neg c1, if_pos c2]; done) | (rw [if_neg c1, if_pos c2]; rfl))
      exact W.zret (v := 1) hx hb hr (bz_n bz1) (fun t ht hW => ⟨⟨1, u, rfl, ⟨hq1.symm, rfl, bz1⟩, by rw [ht]; exact hP, va_K.moved hW.alike hK, hD⟩, hS.F ht⟩) hS.2.2 dX0_isCaptureArmed_27
    · refine lv_iload_n hx hb dX0_isCaptureArmed_17 rfl (lv_at hl 0 rfl) ?_
      refine lv_iconst (v := 3) hx hb dX0_isCaptureArmed_18 (by decide) ?_
      refine lv_icmp_ne (tgt := 26) hx hb dX0_isCaptureArmed_19 (by decide) (fun c3 => ?_) (fun c3 => ?_)
      · refine lv_iconst (v := 0) hx hb dX0_isCaptureArmed_26 (by decide) ?_
        have hq1 : pX0_isCaptureArmed u = 0 := (by unfold pX0_isCaptureArmed; first | (rw [if_neg c1, if_neg c2, if_neg c3]; done) | (rw [if_neg c1, if_neg c2, if_neg c3]; rfl))
        exact W.zret (v := 0) hx hb hr (bz_n bz0) (fun t ht hW => ⟨⟨0, u, rfl, ⟨hq1.symm, rfl, bz0⟩, by rw [ht]; exact hP, va_K.moved hW.alike hK, hD⟩, hS.F ht⟩) hS.2.2 dX0_isCaptureArmed_27
      · refine lv_iconst (v := 1) hx hb dX0_isCaptureArmed_22 (by decide) ?_
        refine lv_goto (tgt := 27) hx hb dX0_isCaptureArmed_23 (by decide) ?_
        have hq1 : pX0_isCaptureArmed u = 1 := (by unfold pX0_isCaptureArmed; first | (rw [if_neg c1, if_neg c2, if_pos c3]; done) | (rw [if_neg c1, if_neg c2, if_pos c3]; rfl))
        exact W.zret (v := 1) hx hb hr (bz_n bz1) (fun t ht hW => ⟨⟨1, u, rfl, ⟨hq1.symm, rfl, bz1⟩, by rw [ht]; exact hP, va_K.moved hW.alike hK, hD⟩, hS.F ht⟩) hS.2.2 dX0_isCaptureArmed_27
def pX0_isCourseWithin (u : XS) (a1 : Int32) : Int32 := if (xM u (Int32.toNatClampNeg 5)) = 1 then (if a1 < (if 0 ≤ (xM u (Int32.toNatClampNeg 0)) then (xM u (Int32.toNatClampNeg 0)) else 0 - (xM u (Int32.toNatClampNeg 0))) then (0) else (1)) else (0)
set_option maxHeartbeats 4000000 in
set_option maxRecDepth 100000 in
theorem kX0_isCourseWithin (l : Launch) (D : va_G) (cI cZ : ClassId) (h : Nat → Nat) (sz : Nat) (u : XS) (a1 : Int32) (hI : InvX u) : Mi l yX0_isCourseWithin wsX0_isCourseWithin { frames := 1, cells := 0, slots := 0, locals := 21 } D (tyl cI cZ) (wX cI cZ h) sz u [.ref (h 0), .int a1] (fun r u9 => r = pX0_isCourseWithin u a1 ∧ u9 = u ∧ bz r) := by
  refine Met.ofW (cc := cX0_isCourseWithin) (maxL := 2) (ret := (some .boolean)) (by decide) rfl ?_
  intro p e s m args below meth c s₁ B hml hv
  obtain ⟨rfl, hsz, hP, hK, hD0⟩ := hv
  have hx := B.exec
  have hb := B.bytes
  have hr := B.returns
  have hts := atoms_spec (ws := wsX0_isCourseWithin) B.pre
  have hin : ∀ w ∈ wsX00, w ∈ wsX0_isCourseWithin := fun w h9 => List.mem_cons_of_mem _ (List.mem_append_right _ h9)
  have hown : s.vm.findClass RX0 = some m.cls := findClass_of_methodNamed B.named
  have hlocks := B.notSynchronized
  subst hsz
  have hD : va_D (va_A (wX cI cZ h u) s.heap.size) (wX cI cZ h u) := hD0.self (sz := s.heap.size)
  have hA : ∀ q : Nat, s.heap.size ≤ q → va_A (wX cI cZ h u) s.heap.size q := fun q h9 => Or.inr h9
  have hS : va_S (va_A (wX cI cZ h u) s.heap.size) s.heap s.heap [] := va_S.rf
  have hl := lv_entry ([.ref (h 0), .int a1]) (n := 2) (Nat.le_of_ble_eq_true rfl)
  rw [lg_entry_eq]
  generalize (lg_sl ([.ref (h 0), .int a1]) ++ List.replicate (2 - (lg_sl ([.ref (h 0), .int a1])).length) Slot.unset).toArray = ls at hl ⊢
  have hl : lv_has ls 2 [(0, .ref (h 0)), (1, .int a1)] := hl
  generalize va_A (wX cI cZ h u) s.heap.size = A at hD hA hS ⊢
  refine lv_aload_n hx hb dX0_isCourseWithin_0 rfl (lv_at hl 0 rfl) ?_
  refine va_get (D := D) (ci := 0) (v := .ref (h 3)) (C := RX0) (T := TX0) (N := 12) hx hb hts hin hown hK hP 0 rfl rfl 2 (by decide) (hts (.fieldLink RX0 16 "ModeDesk" "measures" "[I") (by decide +kernel)) (fun _ h9 => h9) rfl dX0_isCourseWithin_1 ?_
  refine lv_iconst (v := 5) hx hb dX0_isCourseWithin_4 (by decide) ?_
  refine va_iald hx hb hK hP 3 0 rfl rfl (vi_c (by decide)) dX0_isCourseWithin_5 ?_
  refine lv_iconst (v := 1) hx hb dX0_isCourseWithin_6 (by decide) ?_
  refine lv_icmp_ne (tgt := 27) hx hb dX0_isCourseWithin_7 (by decide) (fun c1 => ?_) (fun c1 => ?_)
  · refine lv_iconst (v := 0) hx hb dX0_isCourseWithin_27 (by decide) ?_
    have hq1 : pX0_isCourseWithin u a1 = 0 := (by unfold pX0_isCourseWithin; first | (rw [if_neg c1]; done) | (rw [if_neg c1]; rfl))
    exact W.zret (v := 0) hx hb hr (bz_n bz0) (fun t ht hW => ⟨⟨0, u, rfl, ⟨hq1.symm, rfl, bz0⟩, by rw [ht]; exact hP, va_K.moved hW.alike hK, hD⟩, hS.F ht⟩) hS.2.2 dX0_isCourseWithin_28
  · refine lv_aload_n hx hb dX0_isCourseWithin_10 rfl (lv_at hl 0 rfl) ?_
    refine va_get (D := D) (ci := 0) (v := .ref (h 3)) (C := RX0) (T := TX0) (N := 12) hx hb hts hin hown hK hP 0 rfl rfl 2 (by decide) (hts (.fieldLink RX0 16 "ModeDesk" "measures" "[I") (by decide +kernel)) (fun _ h9 => h9) rfl dX0_isCourseWithin_11 ?_
    refine lv_iconst (v := 0) hx hb dX0_isCourseWithin_14 (by decide) ?_
    refine va_iald hx hb hK hP 3 0 rfl rfl (vi_c (by decide)) dX0_isCourseWithin_15 ?_
    refine va_mabs hx hb (by rw [hml]; exact hl.1.symm) hown (hts (.methodLink RX0 118 Lib.Math.abs.name) (by decide +kernel)) (hts (.static Lib.Math.abs.name) (by decide +kernel)) (hts (.initialized "java/lang/Math") (by decide +kernel)) (hts (.code Lib.Math.abs.name Lib.Math.abs.code 1 (some .int)) (by decide +kernel)) (Nat.le_of_ble_eq_true rfl) (Nat.le_of_ble_eq_true rfl) (Nat.zero_le _) (Nat.zero_le _) dX0_isCourseWithin_16 ?_
    refine lv_iload_n hx hb dX0_isCourseWithin_19 rfl (lv_at hl 1 rfl) ?_
    refine lv_icmp_gt (tgt := 27) hx hb dX0_isCourseWithin_20 (by decide) (fun c2 => ?_) (fun c2 => ?_)
    · refine lv_iconst (v := 0) hx hb dX0_isCourseWithin_27 (by decide) ?_
      have hq1 : pX0_isCourseWithin u a1 = 0 := (by unfold pX0_isCourseWithin; first | (rw [if_pos c1, if_pos c2]; done) | (rw [if_pos c1, if_pos c2]; rfl))
      exact W.zret (v := 0) hx hb hr (bz_n bz0) (fun t ht hW => ⟨⟨0, u, rfl, ⟨hq1.symm, rfl, bz0⟩, by rw [ht]; exact hP, va_K.moved hW.alike hK, hD⟩, hS.F ht⟩) hS.2.2 dX0_isCourseWithin_28
    · refine lv_iconst (v := 1) hx hb dX0_isCourseWithin_23 (by decide) ?_
      refine lv_goto (tgt := 28) hx hb dX0_isCourseWithin_24 (by decide) ?_
      have hq1 : pX0_isCourseWithin u a1 = 1 := (by unfold pX0_isCourseWithin; first | (rw [if_pos c1, if_neg c2]; done) | (rw [if_pos c1, if_neg c2]; rfl))
      exact W.zret (v := 1) hx hb hr (bz_n bz1) (fun t ht hW => ⟨⟨1, u, rfl, ⟨hq1.symm, rfl, bz1⟩, by rw [ht]; exact hP, va_K.moved hW.alike hK, hD⟩, hS.F ht⟩) hS.2.2 dX0_isCourseWithin_28
def pX0_isPathWithin (u : XS) (a1 : Int32) : Int32 := if (xM u (Int32.toNatClampNeg 6)) = 1 then (if a1 < (if 0 ≤ (xM u (Int32.toNatClampNeg 1)) then (xM u (Int32.toNatClampNeg 1)) else 0 - (xM u (Int32.toNatClampNeg 1))) then (0) else (1)) else (0)
set_option maxHeartbeats 4000000 in
set_option maxRecDepth 100000 in
theorem kX0_isPathWithin (l : Launch) (D : va_G) (cI cZ : ClassId) (h : Nat → Nat) (sz : Nat) (u : XS) (a1 : Int32) (hI : InvX u) : Mi l yX0_isPathWithin wsX0_isPathWithin { frames := 1, cells := 0, slots := 0, locals := 21 } D (tyl cI cZ) (wX cI cZ h) sz u [.ref (h 0), .int a1] (fun r u9 => r = pX0_isPathWithin u a1 ∧ u9 = u ∧ bz r) := by
  refine Met.ofW (cc := cX0_isPathWithin) (maxL := 2) (ret := (some .boolean)) (by decide) rfl ?_
  intro p e s m args below meth c s₁ B hml hv
  obtain ⟨rfl, hsz, hP, hK, hD0⟩ := hv
  have hx := B.exec
  have hb := B.bytes
  have hr := B.returns
  have hts := atoms_spec (ws := wsX0_isPathWithin) B.pre
  have hin : ∀ w ∈ wsX00, w ∈ wsX0_isPathWithin := fun w h9 => List.mem_cons_of_mem _ (List.mem_append_right _ h9)
  have hown : s.vm.findClass RX0 = some m.cls := findClass_of_methodNamed B.named
  have hlocks := B.notSynchronized
  subst hsz
  have hD : va_D (va_A (wX cI cZ h u) s.heap.size) (wX cI cZ h u) := hD0.self (sz := s.heap.size)
  have hA : ∀ q : Nat, s.heap.size ≤ q → va_A (wX cI cZ h u) s.heap.size q := fun q h9 => Or.inr h9
  have hS : va_S (va_A (wX cI cZ h u) s.heap.size) s.heap s.heap [] := va_S.rf
  have hl := lv_entry ([.ref (h 0), .int a1]) (n := 2) (Nat.le_of_ble_eq_true rfl)
  rw [lg_entry_eq]
  generalize (lg_sl ([.ref (h 0), .int a1]) ++ List.replicate (2 - (lg_sl ([.ref (h 0), .int a1])).length) Slot.unset).toArray = ls at hl ⊢
  have hl : lv_has ls 2 [(0, .ref (h 0)), (1, .int a1)] := hl
  generalize va_A (wX cI cZ h u) s.heap.size = A at hD hA hS ⊢
  refine lv_aload_n hx hb dX0_isPathWithin_0 rfl (lv_at hl 0 rfl) ?_
  refine va_get (D := D) (ci := 0) (v := .ref (h 3)) (C := RX0) (T := TX0) (N := 12) hx hb hts hin hown hK hP 0 rfl rfl 2 (by decide) (hts (.fieldLink RX0 16 "ModeDesk" "measures" "[I") (by decide +kernel)) (fun _ h9 => h9) rfl dX0_isPathWithin_1 ?_
  refine lv_bipush (v := 6) hx hb dX0_isPathWithin_4 (by decide) ?_
  refine va_iald hx hb hK hP 3 0 rfl rfl (vi_c (by decide)) dX0_isPathWithin_6 ?_
  refine lv_iconst (v := 1) hx hb dX0_isPathWithin_7 (by decide) ?_
  refine lv_icmp_ne (tgt := 28) hx hb dX0_isPathWithin_8 (by decide) (fun c1 => ?_) (fun c1 => ?_)
  · refine lv_iconst (v := 0) hx hb dX0_isPathWithin_28 (by decide) ?_
    have hq1 : pX0_isPathWithin u a1 = 0 := (by unfold pX0_isPathWithin; first | (rw [if_neg c1]; done) | (rw [if_neg c1]; rfl))
    exact W.zret (v := 0) hx hb hr (bz_n bz0) (fun t ht hW => ⟨⟨0, u, rfl, ⟨hq1.symm, rfl, bz0⟩, by rw [ht]; exact hP, va_K.moved hW.alike hK, hD⟩, hS.F ht⟩) hS.2.2 dX0_isPathWithin_29
  · refine lv_aload_n hx hb dX0_isPathWithin_11 rfl (lv_at hl 0 rfl) ?_
    refine va_get (D := D) (ci := 0) (v := .ref (h 3)) (C := RX0) (T := TX0) (N := 12) hx hb hts hin hown hK hP 0 rfl rfl 2 (by decide) (hts (.fieldLink RX0 16 "ModeDesk" "measures" "[I") (by decide +kernel)) (fun _ h9 => h9) rfl dX0_isPathWithin_12 ?_
    refine lv_iconst (v := 1) hx hb dX0_isPathWithin_15 (by decide) ?_
    refine va_iald hx hb hK hP 3 0 rfl rfl (vi_c (by decide)) dX0_isPathWithin_16 ?_
    refine va_mabs hx hb (by rw [hml]; exact hl.1.symm) hown (hts (.methodLink RX0 118 Lib.Math.abs.name) (by decide +kernel)) (hts (.static Lib.Math.abs.name) (by decide +kernel)) (hts (.initialized "java/lang/Math") (by decide +kernel)) (hts (.code Lib.Math.abs.name Lib.Math.abs.code 1 (some .int)) (by decide +kernel)) (Nat.le_of_ble_eq_true rfl) (Nat.le_of_ble_eq_true rfl) (Nat.zero_le _) (Nat.zero_le _) dX0_isPathWithin_17 ?_
    refine lv_iload_n hx hb dX0_isPathWithin_20 rfl (lv_at hl 1 rfl) ?_
    refine lv_icmp_gt (tgt := 28) hx hb dX0_isPathWithin_21 (by decide) (fun c2 => ?_) (fun c2 => ?_)
    · refine lv_iconst (v := 0) hx hb dX0_isPathWithin_28 (by decide) ?_
      have hq1 : pX0_isPathWithin u a1 = 0 := (by unfold pX0_isPathWithin; first | (rw [if_pos c1, if_pos c2]; done) | (rw [if_pos c1, if_pos c2]; rfl))
      exact W.zret (v := 0) hx hb hr (bz_n bz0) (fun t ht hW => ⟨⟨0, u, rfl, ⟨hq1.symm, rfl, bz0⟩, by rw [ht]; exact hP, va_K.moved hW.alike hK, hD⟩, hS.F ht⟩) hS.2.2 dX0_isPathWithin_29
    · refine lv_iconst (v := 1) hx hb dX0_isPathWithin_24 (by decide) ?_
      refine lv_goto (tgt := 29) hx hb dX0_isPathWithin_25 (by decide) ?_
      have hq1 : pX0_isPathWithin u a1 = 1 := (by unfold pX0_isPathWithin; first | (rw [if_pos c1, if_neg c2]; done) | (rw [if_pos c1, if_neg c2]; rfl))
      exact W.zret (v := 1) hx hb hr (bz_n bz1) (fun t ht hW => ⟨⟨1, u, rfl, ⟨hq1.symm, rfl, bz1⟩, by rw [ht]; exact hP, va_K.moved hW.alike hK, hD⟩, hS.F ht⟩) hS.2.2 dX0_isPathWithin_29
def pX0_isHeightWithin (u : XS) (a1 : Int32) : Int32 := if a1 < (if 0 ≤ ((xM u (Int32.toNatClampNeg 2)) - (xM u (Int32.toNatClampNeg 3))) then ((xM u (Int32.toNatClampNeg 2)) - (xM u (Int32.toNatClampNeg 3))) else 0 - ((xM u (Int32.toNatClampNeg 2)) - (xM u (Int32.toNatClampNeg 3)))) then (0) else (1)
set_option maxHeartbeats 4000000 in
set_option maxRecDepth 100000 in
theorem kX0_isHeightWithin (l : Launch) (D : va_G) (cI cZ : ClassId) (h : Nat → Nat) (sz : Nat) (u : XS) (a1 : Int32) (hI : InvX u) : Mi l yX0_isHeightWithin wsX0_isHeightWithin { frames := 1, cells := 0, slots := 0, locals := 21 } D (tyl cI cZ) (wX cI cZ h) sz u [.ref (h 0), .int a1] (fun r u9 => r = pX0_isHeightWithin u a1 ∧ u9 = u ∧ bz r) := by
  refine Met.ofW (cc := cX0_isHeightWithin) (maxL := 2) (ret := (some .boolean)) (by decide) rfl ?_
  intro p e s m args below meth c s₁ B hml hv
  obtain ⟨rfl, hsz, hP, hK, hD0⟩ := hv
  have hx := B.exec
  have hb := B.bytes
  have hr := B.returns
  have hts := atoms_spec (ws := wsX0_isHeightWithin) B.pre
  have hin : ∀ w ∈ wsX00, w ∈ wsX0_isHeightWithin := fun w h9 => List.mem_cons_of_mem _ (List.mem_append_right _ h9)
  have hown : s.vm.findClass RX0 = some m.cls := findClass_of_methodNamed B.named
  have hlocks := B.notSynchronized
  subst hsz
  have hD : va_D (va_A (wX cI cZ h u) s.heap.size) (wX cI cZ h u) := hD0.self (sz := s.heap.size)
  have hA : ∀ q : Nat, s.heap.size ≤ q → va_A (wX cI cZ h u) s.heap.size q := fun q h9 => Or.inr h9
  have hS : va_S (va_A (wX cI cZ h u) s.heap.size) s.heap s.heap [] := va_S.rf
  have hl := lv_entry ([.ref (h 0), .int a1]) (n := 2) (Nat.le_of_ble_eq_true rfl)
  rw [lg_entry_eq]
  generalize (lg_sl ([.ref (h 0), .int a1]) ++ List.replicate (2 - (lg_sl ([.ref (h 0), .int a1])).length) Slot.unset).toArray = ls at hl ⊢
  have hl : lv_has ls 2 [(0, .ref (h 0)), (1, .int a1)] := hl
  generalize va_A (wX cI cZ h u) s.heap.size = A at hD hA hS ⊢
  refine lv_aload_n hx hb dX0_isHeightWithin_0 rfl (lv_at hl 0 rfl) ?_
  refine va_get (D := D) (ci := 0) (v := .ref (h 3)) (C := RX0) (T := TX0) (N := 12) hx hb hts hin hown hK hP 0 rfl rfl 2 (by decide) (hts (.fieldLink RX0 16 "ModeDesk" "measures" "[I") (by decide +kernel)) (fun _ h9 => h9) rfl dX0_isHeightWithin_1 ?_
  refine lv_iconst (v := 2) hx hb dX0_isHeightWithin_4 (by decide) ?_
  refine va_iald hx hb hK hP 3 0 rfl rfl (vi_c (by decide)) dX0_isHeightWithin_5 ?_
  refine lv_aload_n hx hb dX0_isHeightWithin_6 rfl (lv_at hl 0 rfl) ?_
  refine va_get (D := D) (ci := 0) (v := .ref (h 3)) (C := RX0) (T := TX0) (N := 12) hx hb hts hin hown hK hP 0 rfl rfl 2 (by decide) (hts (.fieldLink RX0 16 "ModeDesk" "measures" "[I") (by decide +kernel)) (fun _ h9 => h9) rfl dX0_isHeightWithin_7 ?_
  refine lv_iconst (v := 3) hx hb dX0_isHeightWithin_10 (by decide) ?_
  refine va_iald hx hb hK hP 3 0 rfl rfl (vi_c (by decide)) dX0_isHeightWithin_11 ?_
  refine lv_isub hx hb dX0_isHeightWithin_12 ?_
  refine va_mabs hx hb (by rw [hml]; exact hl.1.symm) hown (hts (.methodLink RX0 118 Lib.Math.abs.name) (by decide +kernel)) (hts (.static Lib.Math.abs.name) (by decide +kernel)) (hts (.initialized "java/lang/Math") (by decide +kernel)) (hts (.code Lib.Math.abs.name Lib.Math.abs.code 1 (some .int)) (by decide +kernel)) (Nat.le_of_ble_eq_true rfl) (Nat.le_of_ble_eq_true rfl) (Nat.zero_le _) (Nat.zero_le _) dX0_isHeightWithin_13 ?_
  refine lv_iload_n hx hb dX0_isHeightWithin_16 rfl (lv_at hl 1 rfl) ?_
  refine lv_icmp_gt (tgt := 24) hx hb dX0_isHeightWithin_17 (by decide) (fun c1 => ?_) (fun c1 => ?_)
  · refine lv_iconst (v := 0) hx hb dX0_isHeightWithin_24 (by decide) ?_
    have hq1 : pX0_isHeightWithin u a1 = 0 := (by unfold pX0_isHeightWithin; first | (rw [if_pos c1]; done) | (rw [if_pos c1]; rfl))
    exact W.zret (v := 0) hx hb hr (bz_n bz0) (fun t ht hW => ⟨⟨0, u, rfl, ⟨hq1.symm, rfl, bz0⟩, by rw [ht]; exact hP, va_K.moved hW.alike hK, hD⟩, hS.F ht⟩) hS.2.2 dX0_isHeightWithin_25
  · refine lv_iconst (v := 1) hx hb dX0_isHeightWithin_20 (by decide) ?_
    refine lv_goto (tgt := 25) hx hb dX0_isHeightWithin_21 (by decide) ?_
    have hq1 : pX0_isHeightWithin u a1 = 1 := (by unfold pX0_isHeightWithin; first | (rw [if_neg c1]; done) | (rw [if_neg c1]; rfl))
    exact W.zret (v := 1) hx hb hr (bz_n bz1) (fun t ht hW => ⟨⟨1, u, rfl, ⟨hq1.symm, rfl, bz1⟩, by rw [ht]; exact hP, va_K.moved hW.alike hK, hD⟩, hS.F ht⟩) hS.2.2 dX0_isHeightWithin_25
def pX0_stopFlashing (u : XS) : XS := xF_ (xF_ u (upd (xF u) (Int32.toNatClampNeg 0) 0)) (upd (xF (xF_ u (upd (xF u) (Int32.toNatClampNeg 0) 0))) (Int32.toNatClampNeg 1) 0)
set_option maxHeartbeats 4000000 in
set_option maxRecDepth 100000 in
theorem kX0_stopFlashing (l : Launch) (D : va_G) (cI cZ : ClassId) (h : Nat → Nat) (sz : Nat) (u : XS) (hI : InvX u) : Mv l yX0_stopFlashing wsX0_stopFlashing { frames := 0, cells := 0, slots := 0, locals := 0 } D (tyl cI cZ) (wX cI cZ h) sz u [.ref (h 0)] (fun u9 => u9 = pX0_stopFlashing u ∧ InvX u9) := by
  refine Met.ofW (cc := cX0_stopFlashing) (maxL := 1) (ret := none) (by decide) rfl ?_
  intro p e s m args below meth c s₁ B hml hv
  obtain ⟨rfl, hsz, hP, hK, hD0⟩ := hv
  have hx := B.exec
  have hb := B.bytes
  have hr := B.returns
  have hts := atoms_spec (ws := wsX0_stopFlashing) B.pre
  have hin : ∀ w ∈ wsX00, w ∈ wsX0_stopFlashing := fun w h9 => List.mem_cons_of_mem _ (List.mem_append_right _ h9)
  have hown : s.vm.findClass RX0 = some m.cls := findClass_of_methodNamed B.named
  have hlocks := B.notSynchronized
  subst hsz
  have hD : va_D (va_A (wX cI cZ h u) s.heap.size) (wX cI cZ h u) := hD0.self (sz := s.heap.size)
  have hA : ∀ q : Nat, s.heap.size ≤ q → va_A (wX cI cZ h u) s.heap.size q := fun q h9 => Or.inr h9
  have hS : va_S (va_A (wX cI cZ h u) s.heap.size) s.heap s.heap [] := va_S.rf
  have hl := lv_entry ([.ref (h 0)]) (n := 1) (Nat.le_of_ble_eq_true rfl)
  rw [lg_entry_eq]
  generalize (lg_sl ([.ref (h 0)]) ++ List.replicate (1 - (lg_sl ([.ref (h 0)])).length) Slot.unset).toArray = ls at hl ⊢
  have hl : lv_has ls 1 [(0, .ref (h 0))] := hl
  generalize va_A (wX cI cZ h u) s.heap.size = A at hD hA hS ⊢
  refine lv_aload_n hx hb dX0_stopFlashing_0 rfl (lv_at hl 0 rfl) ?_
  refine va_get (D := D) (ci := 0) (v := .ref (h 2)) (C := RX0) (T := TX0) (N := 12) hx hb hts hin hown hK hP 0 rfl rfl 1 (by decide) (hts (.fieldLink RX0 13 "ModeDesk" "flashing" "[I") (by decide +kernel)) (fun _ h9 => h9) rfl dX0_stopFlashing_1 ?_
  refine lv_iconst (v := 0) hx hb dX0_stopFlashing_4 (by decide) ?_
  refine lv_iconst (v := 0) hx hb dX0_stopFlashing_5 (by decide) ?_
  refine va_iast hx hb hK hP hD hS 2 0 rfl rfl (vi_c (by decide)) dX0_stopFlashing_6 (fun H2 locs hP hD hS => ?_)
  obtain ⟨u1, eu1⟩ : ∃ y : XS, y = xF_ u (upd (xF u) (Int32.toNatClampNeg 0) 0) := ⟨_, rfl⟩
  have hP : va_P D vwCl (wX cI cZ h u1) H2 := by rw [eu1]; exact hP
  have hD : va_D A (wX cI cZ h u1) := by rw [eu1]; exact hD
  have hIu1 : InvX u1 := by rw [eu1]; exact InvX.sF hI _
  refine lv_aload_n hx hb dX0_stopFlashing_7 rfl (lv_at hl 0 rfl) ?_
  refine va_get (D := D) (ci := 0) (v := .ref (h 2)) (C := RX0) (T := TX0) (N := 12) hx hb hts hin hown hK hP 0 rfl rfl 1 (by decide) (hts (.fieldLink RX0 13 "ModeDesk" "flashing" "[I") (by decide +kernel)) (fun _ h9 => h9) rfl dX0_stopFlashing_8 ?_
  refine lv_iconst (v := 1) hx hb dX0_stopFlashing_11 (by decide) ?_
  refine lv_iconst (v := 0) hx hb dX0_stopFlashing_12 (by decide) ?_
  refine va_iast hx hb hK hP hD hS 2 0 rfl rfl (vi_c (by decide)) dX0_stopFlashing_13 (fun H4 locs hP hD hS => ?_)
  obtain ⟨u3, eu3⟩ : ∃ y : XS, y = xF_ u1 (upd (xF u1) (Int32.toNatClampNeg 1) 0) := ⟨_, rfl⟩
  have hP : va_P D vwCl (wX cI cZ h u3) H4 := by rw [eu3]; exact hP
  have hD : va_D A (wX cI cZ h u3) := by rw [eu3]; exact hD
  have hIu3 : InvX u3 := by rw [eu3]; exact InvX.sF hIu1 _
  have hq1 : pX0_stopFlashing u = u3 := (by subst eu3; subst eu1; rfl)
  exact W.vret hx hb hr (fun t ht hW => ⟨⟨u3, rfl, ⟨hq1.symm, hIu3⟩, by rw [ht]; exact hP, va_K.moved hW.alike hK, hD⟩, hS.F ht⟩) hS.2.2 dX0_stopFlashing_14
def pX0_disarmAll (u : XS) : XS := xg_ (xa_ (xn_ u 0) 0) 0
set_option maxHeartbeats 4000000 in
set_option maxRecDepth 100000 in
theorem kX0_disarmAll (l : Launch) (D : va_G) (cI cZ : ClassId) (h : Nat → Nat) (sz : Nat) (u : XS) (hI : InvX u) : Mv l yX0_disarmAll wsX0_disarmAll { frames := 0, cells := 0, slots := 0, locals := 0 } D (tyl cI cZ) (wX cI cZ h) sz u [.ref (h 0)] (fun u9 => u9 = pX0_disarmAll u ∧ InvX u9) := by
  refine Met.ofW (cc := cX0_disarmAll) (maxL := 1) (ret := none) (by decide) rfl ?_
  intro p e s m args below meth c s₁ B hml hv
  obtain ⟨rfl, hsz, hP, hK, hD0⟩ := hv
  have hx := B.exec
  have hb := B.bytes
  have hr := B.returns
  have hts := atoms_spec (ws := wsX0_disarmAll) B.pre
  have hin : ∀ w ∈ wsX00, w ∈ wsX0_disarmAll := fun w h9 => List.mem_cons_of_mem _ (List.mem_append_right _ h9)
  have hown : s.vm.findClass RX0 = some m.cls := findClass_of_methodNamed B.named
  have hlocks := B.notSynchronized
  subst hsz
  have hD : va_D (va_A (wX cI cZ h u) s.heap.size) (wX cI cZ h u) := hD0.self (sz := s.heap.size)
  have hA : ∀ q : Nat, s.heap.size ≤ q → va_A (wX cI cZ h u) s.heap.size q := fun q h9 => Or.inr h9
  have hS : va_S (va_A (wX cI cZ h u) s.heap.size) s.heap s.heap [] := va_S.rf
  have hl := lv_entry ([.ref (h 0)]) (n := 1) (Nat.le_of_ble_eq_true rfl)
  rw [lg_entry_eq]
  generalize (lg_sl ([.ref (h 0)]) ++ List.replicate (1 - (lg_sl ([.ref (h 0)])).length) Slot.unset).toArray = ls at hl ⊢
  have hl : lv_has ls 1 [(0, .ref (h 0))] := hl
  generalize va_A (wX cI cZ h u) s.heap.size = A at hD hA hS ⊢
  refine lv_aload_n hx hb dX0_disarmAll_0 rfl (lv_at hl 0 rfl) ?_
  refine lv_iconst (v := 0) hx hb dX0_disarmAll_1 (by decide) ?_
  refine va_put (D := D) (ci := 0) (v := .int 0) (ty := .boolean) (C := RX0) (T := TX0) (N := 12) hx hb hts hin tyX0 tyX0_ok nmX0 hown hK hP hD hS 0 rfl rfl 5 (by decide) (hts (.fieldLink RX0 90 "ModeDesk" "navArmed" "Z") (by decide +kernel)) (fun _ h9 => h9) rfl (by decide +kernel) (bz_n bz0) (bz_f bz0) (Nat.le_of_ble_eq_true rfl) dX0_disarmAll_2 (fun H2 locs hP hD hS => ?_)
  obtain ⟨u1, eu1⟩ : ∃ y : XS, y = xn_ u 0 := ⟨_, rfl⟩
  have hP : va_P D vwCl (wX cI cZ h u1) H2 := by rw [eu1]; exact hP
  have hD : va_D A (wX cI cZ h u1) := by rw [eu1]; exact hD
  have hIu1 : InvX u1 := by rw [eu1]; exact InvX.sn hI bz0
  refine lv_aload_n hx hb dX0_disarmAll_5 rfl (lv_at hl 0 rfl) ?_
  refine lv_iconst (v := 0) hx hb dX0_disarmAll_6 (by decide) ?_
  refine va_put (D := D) (ci := 0) (v := .int 0) (ty := .boolean) (C := RX0) (T := TX0) (N := 12) hx hb hts hin tyX0 tyX0_ok nmX0 hown hK hP hD hS 0 rfl rfl 6 (by decide) (hts (.fieldLink RX0 93 "ModeDesk" "approachArmed" "Z") (by decide +kernel)) (fun _ h9 => h9) rfl (by decide +kernel) (bz_n bz0) (bz_f bz0) (Nat.le_of_ble_eq_true rfl) dX0_disarmAll_7 (fun H4 locs hP hD hS => ?_)
  obtain ⟨u3, eu3⟩ : ∃ y : XS, y = xa_ u1 0 := ⟨_, rfl⟩
  have hP : va_P D vwCl (wX cI cZ h u3) H4 := by rw [eu3]; exact hP
  have hD : va_D A (wX cI cZ h u3) := by rw [eu3]; exact hD
  have hIu3 : InvX u3 := by rw [eu3]; exact InvX.sa hIu1 bz0
  refine lv_aload_n hx hb dX0_disarmAll_10 rfl (lv_at hl 0 rfl) ?_
  refine lv_iconst (v := 0) hx hb dX0_disarmAll_11 (by decide) ?_
  refine va_put (D := D) (ci := 0) (v := .int 0) (ty := .boolean) (C := RX0) (T := TX0) (N := 12) hx hb hts hin tyX0 tyX0_ok nmX0 hown hK hP hD hS 0 rfl rfl 7 (by decide) (hts (.fieldLink RX0 96 "ModeDesk" "glideArmed" "Z") (by decide +kernel)) (fun _ h9 => h9) rfl (by decide +kernel) (bz_n bz0) (bz_f bz0) (Nat.le_of_ble_eq_true rfl) dX0_disarmAll_12 (fun H6 locs hP hD hS => ?_)
  obtain ⟨u5, eu5⟩ : ∃ y : XS, y = xg_ u3 0 := ⟨_, rfl⟩
  have hP : va_P D vwCl (wX cI cZ h u5) H6 := by rw [eu5]; exact hP
  have hD : va_D A (wX cI cZ h u5) := by rw [eu5]; exact hD
  have hIu5 : InvX u5 := by rw [eu5]; exact InvX.sg hIu3 bz0
  have hq1 : pX0_disarmAll u = u5 := (by subst eu5; subst eu3; subst eu1; rfl)
  exact W.vret hx hb hr (fun t ht hW => ⟨⟨u5, rfl, ⟨hq1.symm, hIu5⟩, by rw [ht]; exact hP, va_K.moved hW.alike hK, hD⟩, hS.F ht⟩) hS.2.2 dX0_disarmAll_15
def pX0_disengageWithWarning (u : XS) : XS := if (xe u) = 0 then (u) else (xw_ (xe_ u 0) 1)
set_option maxHeartbeats 4000000 in
set_option maxRecDepth 100000 in
theorem kX0_disengageWithWarning (l : Launch) (D : va_G) (cI cZ : ClassId) (h : Nat → Nat) (sz : Nat) (u : XS) (hI : InvX u) : Mv l yX0_disengageWithWarning wsX0_disengageWithWarning { frames := 0, cells := 0, slots := 0, locals := 0 } D (tyl cI cZ) (wX cI cZ h) sz u [.ref (h 0)] (fun u9 => u9 = pX0_disengageWithWarning u ∧ InvX u9) := by
  refine Met.ofW (cc := cX0_disengageWithWarning) (maxL := 1) (ret := none) (by decide) rfl ?_
  intro p e s m args below meth c s₁ B hml hv
  obtain ⟨rfl, hsz, hP, hK, hD0⟩ := hv
  have hx := B.exec
  have hb := B.bytes
  have hr := B.returns
  have hts := atoms_spec (ws := wsX0_disengageWithWarning) B.pre
  have hin : ∀ w ∈ wsX00, w ∈ wsX0_disengageWithWarning := fun w h9 => List.mem_cons_of_mem _ (List.mem_append_right _ h9)
  have hown : s.vm.findClass RX0 = some m.cls := findClass_of_methodNamed B.named
  have hlocks := B.notSynchronized
  subst hsz
  have hD : va_D (va_A (wX cI cZ h u) s.heap.size) (wX cI cZ h u) := hD0.self (sz := s.heap.size)
  have hA : ∀ q : Nat, s.heap.size ≤ q → va_A (wX cI cZ h u) s.heap.size q := fun q h9 => Or.inr h9
  have hS : va_S (va_A (wX cI cZ h u) s.heap.size) s.heap s.heap [] := va_S.rf
  have hl := lv_entry ([.ref (h 0)]) (n := 1) (Nat.le_of_ble_eq_true rfl)
  rw [lg_entry_eq]
  generalize (lg_sl ([.ref (h 0)]) ++ List.replicate (1 - (lg_sl ([.ref (h 0)])).length) Slot.unset).toArray = ls at hl ⊢
  have hl : lv_has ls 1 [(0, .ref (h 0))] := hl
  generalize va_A (wX cI cZ h u) s.heap.size = A at hD hA hS ⊢
  refine lv_aload_n hx hb dX0_disengageWithWarning_0 rfl (lv_at hl 0 rfl) ?_
  refine va_get (D := D) (ci := 0) (v := .int (xe u)) (C := RX0) (T := TX0) (N := 12) hx hb hts hin hown hK hP 0 rfl rfl 8 (by decide) (hts (.fieldLink RX0 63 "ModeDesk" "engaged" "Z") (by decide +kernel)) (fun _ h9 => h9) rfl dX0_disengageWithWarning_1 ?_
  refine lv_if_eq (tgt := 17) hx hb dX0_disengageWithWarning_4 (by decide) (fun c1 => ?_) (fun c1 => ?_)
  · have hq1 : pX0_disengageWithWarning u = u := (by unfold pX0_disengageWithWarning; first | (rw [if_pos c1]; done) | (rw [if_pos c1]; rfl))
    exact W.vret hx hb hr (fun t ht hW => ⟨⟨u, rfl, ⟨hq1.symm, hI⟩, by rw [ht]; exact hP, va_K.moved hW.alike hK, hD⟩, hS.F ht⟩) hS.2.2 dX0_disengageWithWarning_17
  · refine lv_aload_n hx hb dX0_disengageWithWarning_7 rfl (lv_at hl 0 rfl) ?_
    refine lv_iconst (v := 0) hx hb dX0_disengageWithWarning_8 (by decide) ?_
    refine va_put (D := D) (ci := 0) (v := .int 0) (ty := .boolean) (C := RX0) (T := TX0) (N := 12) hx hb hts hin tyX0 tyX0_ok nmX0 hown hK hP hD hS 0 rfl rfl 8 (by decide) (hts (.fieldLink RX0 63 "ModeDesk" "engaged" "Z") (by decide +kernel)) (fun _ h9 => h9) rfl (by decide +kernel) (bz_n bz0) (bz_f bz0) (Nat.le_of_ble_eq_true rfl) dX0_disengageWithWarning_9 (fun H3 locs hP hD hS => ?_)
    obtain ⟨u2, eu2⟩ : ∃ y : XS, y = xe_ u 0 := ⟨_, rfl⟩
    have hP : va_P D vwCl (wX cI cZ h u2) H3 := by rw [eu2]; exact hP
    have hD : va_D A (wX cI cZ h u2) := by rw [eu2]; exact hD
    have hIu2 : InvX u2 := by rw [eu2]; exact InvX.se hI bz0
    refine lv_aload_n hx hb dX0_disengageWithWarning_12 rfl (lv_at hl 0 rfl) ?_
    refine lv_iconst (v := 1) hx hb dX0_disengageWithWarning_13 (by decide) ?_
    refine va_put (D := D) (ci := 0) (v := .int 1) (ty := .boolean) (C := RX0) (T := TX0) (N := 12) hx hb hts hin tyX0 tyX0_ok nmX0 hown hK hP hD hS 0 rfl rfl 9 (by decide) (hts (.fieldLink RX0 83 "ModeDesk" "warning" "Z") (by decide +kernel)) (fun _ h9 => h9) rfl (by decide +kernel) (bz_n bz1) (bz_f bz1) (Nat.le_of_ble_eq_true rfl) dX0_disengageWithWarning_14 (fun H5 locs hP hD hS => ?_)
    obtain ⟨u4, eu4⟩ : ∃ y : XS, y = xw_ u2 1 := ⟨_, rfl⟩
    have hP : va_P D vwCl (wX cI cZ h u4) H5 := by rw [eu4]; exact hP
    have hD : va_D A (wX cI cZ h u4) := by rw [eu4]; exact hD
    have hIu4 : InvX u4 := by rw [eu4]; exact InvX.sw hIu2 bz1
    have hq1 : pX0_disengageWithWarning u = u4 := (by subst eu4; subst eu2; unfold pX0_disengageWithWarning; first | (rw [if_neg c1]; done) | (rw [if_neg c1]; rfl))
    exact W.vret hx hb hr (fun t ht hW => ⟨⟨u4, rfl, ⟨hq1.symm, hIu4⟩, by rw [ht]; exact hP, va_K.moved hW.alike hK, hD⟩, hS.F ht⟩) hS.2.2 dX0_disengageWithWarning_17
def pX0_change (u : XS) (a1 a2 a3 : Int32) : XS := if (xA u (Int32.toNatClampNeg a1)) = a2 then (u) else (if a3 = 0 then (if 300 ≤ (xc (xA_ u (upd (xA u) (Int32.toNatClampNeg a1) a2))) then (xA_ u (upd (xA u) (Int32.toNatClampNeg a1) a2)) else (xc_ (xC_ (xA_ u (upd (xA u) (Int32.toNatClampNeg a1) a2)) (upd (xC (xA_ u (upd (xA u) (Int32.toNatClampNeg a1) a2))) (Int32.toNatClampNeg (xc (xA_ u (upd (xA u) (Int32.toNatClampNeg a1) a2)))) (((a1 ||| ((xA u (Int32.toNatClampNeg a1)) <<< ((1 : Int32) &&& 31))) ||| (a2 <<< ((4 : Int32) &&& 31))) ||| (pX0_bit a3 128)))) ((xc (xC_ (xA_ u (upd (xA u) (Int32.toNatClampNeg a1) a2)) (upd (xC (xA_ u (upd (xA u) (Int32.toNatClampNeg a1) a2))) (Int32.toNatClampNeg (xc (xA_ u (upd (xA u) (Int32.toNatClampNeg a1) a2)))) (((a1 ||| ((xA u (Int32.toNatClampNeg a1)) <<< ((1 : Int32) &&& 31))) ||| (a2 <<< ((4 : Int32) &&& 31))) ||| (pX0_bit a3 128))))) + 1))) else (if 300 ≤ (xc (xF_ (xA_ u (upd (xA u) (Int32.toNatClampNeg a1) a2)) (upd (xF (xA_ u (upd (xA u) (Int32.toNatClampNeg a1) a2))) (Int32.toNatClampNeg a1) 10))) then (xF_ (xA_ u (upd (xA u) (Int32.toNatClampNeg a1) a2)) (upd (xF (xA_ u (upd (xA u) (Int32.toNatClampNeg a1) a2))) (Int32.toNatClampNeg a1) 10)) else (xc_ (xC_ (xF_ (xA_ u (upd (xA u) (Int32.toNatClampNeg a1) a2)) (upd (xF (xA_ u (upd (xA u) (Int32.toNatClampNeg a1) a2))) (Int32.toNatClampNeg a1) 10)) (upd (xC (xF_ (xA_ u (upd (xA u) (Int32.toNatClampNeg a1) a2)) (upd (xF (xA_ u (upd (xA u) (Int32.toNatClampNeg a1) a2))) (Int32.toNatClampNeg a1) 10))) (Int32.toNatClampNeg (xc (xF_ (xA_ u (upd (xA u) (Int32.toNatClampNeg a1) a2)) (upd (xF (xA_ u (upd (xA u) (Int32.toNatClampNeg a1) a2))) (Int32.toNatClampNeg a1) 10)))) (((a1 ||| ((xA u (Int32.toNatClampNeg a1)) <<< ((1 : Int32) &&& 31))) ||| (a2 <<< ((4 : Int32) &&& 31))) ||| (pX0_bit a3 128)))) ((xc (xC_ (xF_ (xA_ u (upd (xA u) (Int32.toNatClampNeg a1) a2)) (upd (xF (xA_ u (upd (xA u) (Int32.toNatClampNeg a1) a2))) (Int32.toNatClampNeg a1) 10)) (upd (xC (xF_ (xA_ u (upd (xA u) (Int32.toNatClampNeg a1) a2)) (upd (xF (xA_ u (upd (xA u) (Int32.toNatClampNeg a1) a2))) (Int32.toNatClampNeg a1) 10))) (Int32.toNatClampNeg (xc (xF_ (xA_ u (upd (xA u) (Int32.toNatClampNeg a1) a2)) (upd (xF (xA_ u (upd (xA u) (Int32.toNatClampNeg a1) a2))) (Int32.toNatClampNeg a1) 10)))) (((a1 ||| ((xA u (Int32.toNatClampNeg a1)) <<< ((1 : Int32) &&& 31))) ||| (a2 <<< ((4 : Int32) &&& 31))) ||| (pX0_bit a3 128))))) + 1))))
set_option maxHeartbeats 4000000 in
set_option maxRecDepth 100000 in
theorem kX0_change (l : Launch) (D : va_G) (cI cZ : ClassId) (h : Nat → Nat) (sz : Nat) (u : XS) (a1 a2 a3 : Int32) (hI : InvX u) (hb1 : bz a1) : Mv l yX0_change wsX0_change { frames := 1, cells := 0, slots := 0, locals := 21 } D (tyl cI cZ) (wX cI cZ h) sz u [.ref (h 0), .int a1, .int a2, .int a3] (fun u9 => u9 = pX0_change u a1 a2 a3 ∧ InvX u9) := by
  refine Met.ofW (cc := cX0_change) (maxL := 5) (ret := none) (by decide) rfl ?_
  intro p e s m args below meth c s₁ B hml hv
  obtain ⟨rfl, hsz, hP, hK, hD0⟩ := hv
  have hx := B.exec
  have hb := B.bytes
  have hr := B.returns
  have hts := atoms_spec (ws := wsX0_change) B.pre
  have hin : ∀ w ∈ wsX00, w ∈ wsX0_change := fun w h9 => List.mem_cons_of_mem _ (List.mem_append_right _ h9)
  have hown : s.vm.findClass RX0 = some m.cls := findClass_of_methodNamed B.named
  have hlocks := B.notSynchronized
  subst hsz
  have hD : va_D (va_A (wX cI cZ h u) s.heap.size) (wX cI cZ h u) := hD0.self (sz := s.heap.size)
  have hA : ∀ q : Nat, s.heap.size ≤ q → va_A (wX cI cZ h u) s.heap.size q := fun q h9 => Or.inr h9
  have hS : va_S (va_A (wX cI cZ h u) s.heap.size) s.heap s.heap [] := va_S.rf
  have hl := lv_entry ([.ref (h 0), .int a1, .int a2, .int a3]) (n := 5) (Nat.le_of_ble_eq_true rfl)
  rw [lg_entry_eq]
  generalize (lg_sl ([.ref (h 0), .int a1, .int a2, .int a3]) ++ List.replicate (5 - (lg_sl ([.ref (h 0), .int a1, .int a2, .int a3])).length) Slot.unset).toArray = ls at hl ⊢
  have hl : lv_has ls 5 [(0, .ref (h 0)), (1, .int a1), (2, .int a2), (3, .int a3)] := hl
  generalize va_A (wX cI cZ h u) s.heap.size = A at hD hA hS ⊢
  refine lv_aload_n hx hb dX0_change_0 rfl (lv_at hl 0 rfl) ?_
  refine va_get (D := D) (ci := 0) (v := .ref (h 1)) (C := RX0) (T := TX0) (N := 12) hx hb hts hin hown hK hP 0 rfl rfl 0 (by decide) (hts (.fieldLink RX0 7 "ModeDesk" "active" "[I") (by decide +kernel)) (fun _ h9 => h9) rfl dX0_change_1 ?_
  refine lv_iload_n hx hb dX0_change_4 rfl (lv_at hl 1 rfl) ?_
  refine va_iald hx hb hK hP 1 0 rfl rfl (vi_2 hb1) dX0_change_5 ?_
  refine lv_istore (lv' := [(4, .int (xA u (Int32.toNatClampNeg a1))), (0, .ref (h 0)), (1, .int a1), (2, .int a2), (3, .int a3)]) hx hb dX0_change_6 hl (by decide) rfl (fun ls hl => ?_)
  refine lv_iload hx hb dX0_change_8 (lv_at hl 0 rfl) ?_
  refine lv_iload_n hx hb dX0_change_10 rfl (lv_at hl 3 rfl) ?_
  refine lv_icmp_ne (tgt := 15) hx hb dX0_change_11 (by decide) (fun c1 => ?_) (fun c1 => ?_)
  · refine lv_aload_n hx hb dX0_change_15 rfl (lv_at hl 1 rfl) ?_
    refine va_get (D := D) (ci := 0) (v := .ref (h 1)) (C := RX0) (T := TX0) (N := 12) hx hb hts hin hown hK hP 0 rfl rfl 0 (by decide) (hts (.fieldLink RX0 7 "ModeDesk" "active" "[I") (by decide +kernel)) (fun _ h9 => h9) rfl dX0_change_16 ?_
    refine lv_iload_n hx hb dX0_change_19 rfl (lv_at hl 2 rfl) ?_
    refine lv_iload_n hx hb dX0_change_20 rfl (lv_at hl 3 rfl) ?_
    refine va_iast hx hb hK hP hD hS 1 0 rfl rfl (vi_2 hb1) dX0_change_21 (fun H3 locs hP hD hS => ?_)
    obtain ⟨u2, eu2⟩ : ∃ y : XS, y = xA_ u (upd (xA u) (Int32.toNatClampNeg a1) a2) := ⟨_, rfl⟩
    have hP : va_P D vwCl (wX cI cZ h u2) H3 := by rw [eu2]; exact hP
    have hD : va_D A (wX cI cZ h u2) := by rw [eu2]; exact hD
    have hIu2 : InvX u2 := by rw [eu2]; exact InvX.sA hI _
    refine lv_iload_n hx hb dX0_change_22 rfl (lv_at hl 4 rfl) ?_
    refine lv_if_eq (tgt := 34) hx hb dX0_change_23 (by decide) (fun c4 => ?_) (fun c4 => ?_)
    · refine lv_aload_n hx hb dX0_change_34 rfl (lv_at hl 1 rfl) ?_
      refine va_get (D := D) (ci := 0) (v := .int (xc u2)) (C := RX0) (T := TX0) (N := 12) hx hb hts hin hown hK hP 0 rfl rfl 11 (by decide) (hts (.fieldLink RX0 115 "ModeDesk" "changeCount" "I") (by decide +kernel)) (fun _ h9 => h9) rfl dX0_change_35 ?_
      refine lv_sipush (v := 300) hx hb dX0_change_38 (by decide) ?_
      refine lv_icmp_ge (tgt := 81) hx hb dX0_change_41 (by decide) (fun c5 => ?_) (fun c5 => ?_)
      · have hq1 : pX0_change u a1 a2 a3 = u2 := (by subst eu2; unfold pX0_change; first | (rw [if_neg c1, if_pos c4, if_pos c5]; done) | (rw [if_neg c1, if_pos c4, if_pos c5]; rfl))
        exact W.vret hx hb hr (fun t ht hW => ⟨⟨u2, rfl, ⟨hq1.symm, hIu2⟩, by rw [ht]; exact hP, va_K.moved hW.alike hK, hD⟩, hS.F ht⟩) hS.2.2 dX0_change_81
      · refine lv_aload_n hx hb dX0_change_44 rfl (lv_at hl 1 rfl) ?_
        refine va_get (D := D) (ci := 0) (v := .ref (h 5)) (C := RX0) (T := TX0) (N := 12) hx hb hts hin hown hK hP 0 rfl rfl 10 (by decide) (hts (.fieldLink RX0 23 "ModeDesk" "changes" "[I") (by decide +kernel)) (fun _ h9 => h9) rfl dX0_change_45 ?_
        refine lv_aload_n hx hb dX0_change_48 rfl (lv_at hl 1 rfl) ?_
        refine va_get (D := D) (ci := 0) (v := .int (xc u2)) (C := RX0) (T := TX0) (N := 12) hx hb hts hin hown hK hP 0 rfl rfl 11 (by decide) (hts (.fieldLink RX0 115 "ModeDesk" "changeCount" "I") (by decide +kernel)) (fun _ h9 => h9) rfl dX0_change_49 ?_
        refine lv_iload_n hx hb dX0_change_52 rfl (lv_at hl 2 rfl) ?_
        refine lv_iload hx hb dX0_change_53 (lv_at hl 0 rfl) ?_
        refine lv_iconst (v := 1) hx hb dX0_change_55 (by decide) ?_
        refine lv_ishl hx hb dX0_change_56 ?_
        refine lv_ior hx hb dX0_change_57 ?_
        refine lv_iload_n hx hb dX0_change_58 rfl (lv_at hl 3 rfl) ?_
        refine lv_iconst (v := 4) hx hb dX0_change_59 (by decide) ?_
        refine lv_ishl hx hb dX0_change_60 ?_
        refine lv_ior hx hb dX0_change_61 ?_
        refine lv_iload_n hx hb dX0_change_62 rfl (lv_at hl 4 rfl) ?_
        refine lv_sipush (v := 128) hx hb dX0_change_63 (by decide) ?_
        refine va_calli (va_runS (As := [.int a3, .int 128]) (rest := [.int ((a1 ||| ((xA u (Int32.toNatClampNeg a1)) <<< ((1 : Int32) &&& 31))) ||| (a2 <<< ((4 : Int32) &&& 31))), .int (xc u2), .ref (h 5)]) ⟨hx, hb, hml, hown, hts⟩ (kX0_bit l D (tyl cI cZ) H3.size a3 128) (va_cwS 2 hts gX0_change_X0_bit rfl rfl rfl (by decide +kernel) ⟨Nat.le_of_ble_eq_true rfl, Nat.le_of_ble_eq_true rfl⟩) ⟨bl_W, pr_W (ws := wE ()) pE hK (dE (A := A))⟩ rfl rfl hl.1 rfl (lv_room (Nat.le_of_ble_eq_true rfl)) dX0_change_66 ⟨Nat.zero_le _, Nat.zero_le _⟩) hS (fun q _ h9 => fr_E hS hA q h9) (fr_E hS hA) (fun r6 u9 t H7 locs ht hvm hw hB hz1 hk1 hS => ?_)
        have hP := af_E hP hk1
        have er6 := hw
        refine lv_ior hx hb dX0_change_69 ?_
        refine va_iast hx hb hK hP hD hS 5 0 rfl rfl (InvX.cIn hIu2 (by subst er6; subst eu2; exact c5)) dX0_change_70 (fun H9 locs hP hD hS => ?_)
        obtain ⟨u8, eu8⟩ : ∃ y : XS, y = xC_ u2 (upd (xC u2) (Int32.toNatClampNeg (xc u2)) (((a1 ||| ((xA u (Int32.toNatClampNeg a1)) <<< ((1 : Int32) &&& 31))) ||| (a2 <<< ((4 : Int32) &&& 31))) ||| r6)) := ⟨_, rfl⟩
        have hP : va_P D vwCl (wX cI cZ h u8) H9 := by rw [eu8]; exact hP
        have hD : va_D A (wX cI cZ h u8) := by rw [eu8]; exact hD
        have hIu8 : InvX u8 := by rw [eu8]; exact InvX.sC hIu2 _
        refine lv_aload_n hx hb dX0_change_71 rfl (lv_at hl 1 rfl) ?_
        refine lv_dup hx hb dX0_change_72 rfl ?_
        refine va_get (D := D) (ci := 0) (v := .int (xc u8)) (C := RX0) (T := TX0) (N := 12) hx hb hts hin hown hK hP 0 rfl rfl 11 (by decide) (hts (.fieldLink RX0 115 "ModeDesk" "changeCount" "I") (by decide +kernel)) (fun _ h9 => h9) rfl dX0_change_73 ?_
        refine lv_iconst (v := 1) hx hb dX0_change_76 (by decide) ?_
        refine lv_iadd hx hb dX0_change_77 ?_
        refine va_put (D := D) (ci := 0) (v := .int ((xc u8) + 1)) (ty := .int) (C := RX0) (T := TX0) (N := 12) hx hb hts hin tyX0 tyX0_ok nmX0 hown hK hP hD hS 0 rfl rfl 11 (by decide) (hts (.fieldLink RX0 115 "ModeDesk" "changeCount" "I") (by decide +kernel)) (fun _ h9 => h9) rfl (by decide +kernel) rfl rfl (Nat.le_of_ble_eq_true rfl) dX0_change_78 (fun H11 locs hP hD hS => ?_)
        obtain ⟨u10, eu10⟩ : ∃ y : XS, y = xc_ u8 ((xc u8) + 1) := ⟨_, rfl⟩
        have hP : va_P D vwCl (wX cI cZ h u10) H11 := by rw [eu10]; exact hP
        have hD : va_D A (wX cI cZ h u10) := by rw [eu10]; exact hD
        have hIu10 : InvX u10 := by rw [eu10]; exact InvX.sc hIu8 (by subst eu8; subst er6; subst eu2; exact c5)
        have hq1 : pX0_change u a1 a2 a3 = u10 := (by subst eu10; subst eu8; subst er6; subst eu2; unfold pX0_change; first | (rw [if_neg c1, if_pos c4, if_neg c5]; done) | (rw [if_neg c1, if_pos c4, if_neg c5]; rfl))
        exact W.vret hx hb hr (fun t ht hW => ⟨⟨u10, rfl, ⟨hq1.symm, hIu10⟩, by rw [ht]; exact hP, va_K.moved hW.alike hK, hD⟩, hS.F ht⟩) hS.2.2 dX0_change_81
    · refine lv_aload_n hx hb dX0_change_26 rfl (lv_at hl 1 rfl) ?_
      refine va_get (D := D) (ci := 0) (v := .ref (h 2)) (C := RX0) (T := TX0) (N := 12) hx hb hts hin hown hK hP 0 rfl rfl 1 (by decide) (hts (.fieldLink RX0 13 "ModeDesk" "flashing" "[I") (by decide +kernel)) (fun _ h9 => h9) rfl dX0_change_27 ?_
      refine lv_iload_n hx hb dX0_change_30 rfl (lv_at hl 2 rfl) ?_
      refine lv_bipush (v := 10) hx hb dX0_change_31 (by decide) ?_
      refine va_iast hx hb hK hP hD hS 2 0 rfl rfl (vi_2 hb1) dX0_change_33 (fun H13 locs hP hD hS => ?_)
      obtain ⟨u12, eu12⟩ : ∃ y : XS, y = xF_ u2 (upd (xF u2) (Int32.toNatClampNeg a1) 10) := ⟨_, rfl⟩
      have hP : va_P D vwCl (wX cI cZ h u12) H13 := by rw [eu12]; exact hP
      have hD : va_D A (wX cI cZ h u12) := by rw [eu12]; exact hD
      have hIu12 : InvX u12 := by rw [eu12]; exact InvX.sF hIu2 _
      refine lv_aload_n hx hb dX0_change_34 rfl (lv_at hl 1 rfl) ?_
      refine va_get (D := D) (ci := 0) (v := .int (xc u12)) (C := RX0) (T := TX0) (N := 12) hx hb hts hin hown hK hP 0 rfl rfl 11 (by decide) (hts (.fieldLink RX0 115 "ModeDesk" "changeCount" "I") (by decide +kernel)) (fun _ h9 => h9) rfl dX0_change_35 ?_
      refine lv_sipush (v := 300) hx hb dX0_change_38 (by decide) ?_
      refine lv_icmp_ge (tgt := 81) hx hb dX0_change_41 (by decide) (fun c14 => ?_) (fun c14 => ?_)
      · have hq1 : pX0_change u a1 a2 a3 = u12 := (by subst eu12; subst eu2; unfold pX0_change; first | (rw [if_neg c1, if_neg c4, if_pos c14]; done) | (rw [if_neg c1, if_neg c4, if_pos c14]; rfl))
        exact W.vret hx hb hr (fun t ht hW => ⟨⟨u12, rfl, ⟨hq1.symm, hIu12⟩, by rw [ht]; exact hP, va_K.moved hW.alike hK, hD⟩, hS.F ht⟩) hS.2.2 dX0_change_81
      · refine lv_aload_n hx hb dX0_change_44 rfl (lv_at hl 1 rfl) ?_
        refine va_get (D := D) (ci := 0) (v := .ref (h 5)) (C := RX0) (T := TX0) (N := 12) hx hb hts hin hown hK hP 0 rfl rfl 10 (by decide) (hts (.fieldLink RX0 23 "ModeDesk" "changes" "[I") (by decide +kernel)) (fun _ h9 => h9) rfl dX0_change_45 ?_
        refine lv_aload_n hx hb dX0_change_48 rfl (lv_at hl 1 rfl) ?_
        refine va_get (D := D) (ci := 0) (v := .int (xc u12)) (C := RX0) (T := TX0) (N := 12) hx hb hts hin hown hK hP 0 rfl rfl 11 (by decide) (hts (.fieldLink RX0 115 "ModeDesk" "changeCount" "I") (by decide +kernel)) (fun _ h9 => h9) rfl dX0_change_49 ?_
        refine lv_iload_n hx hb dX0_change_52 rfl (lv_at hl 2 rfl) ?_
        refine lv_iload hx hb dX0_change_53 (lv_at hl 0 rfl) ?_
        refine lv_iconst (v := 1) hx hb dX0_change_55 (by decide) ?_
        refine lv_ishl hx hb dX0_change_56 ?_
        refine lv_ior hx hb dX0_change_57 ?_
        refine lv_iload_n hx hb dX0_change_58 rfl (lv_at hl 3 rfl) ?_
        refine lv_iconst (v := 4) hx hb dX0_change_59 (by decide) ?_
        refine lv_ishl hx hb dX0_change_60 ?_
        refine lv_ior hx hb dX0_change_61 ?_
        refine lv_iload_n hx hb dX0_change_62 rfl (lv_at hl 4 rfl) ?_
        refine lv_sipush (v := 128) hx hb dX0_change_63 (by decide) ?_
        refine va_calli (va_runS (As := [.int a3, .int 128]) (rest := [.int ((a1 ||| ((xA u (Int32.toNatClampNeg a1)) <<< ((1 : Int32) &&& 31))) ||| (a2 <<< ((4 : Int32) &&& 31))), .int (xc u12), .ref (h 5)]) ⟨hx, hb, hml, hown, hts⟩ (kX0_bit l D (tyl cI cZ) H13.size a3 128) (va_cwS 2 hts gX0_change_X0_bit rfl rfl rfl (by decide +kernel) ⟨Nat.le_of_ble_eq_true rfl, Nat.le_of_ble_eq_true rfl⟩) ⟨bl_W, pr_W (ws := wE ()) pE hK (dE (A := A))⟩ rfl rfl hl.1 rfl (lv_room (Nat.le_of_ble_eq_true rfl)) dX0_change_66 ⟨Nat.zero_le _, Nat.zero_le _⟩) hS (fun q _ h9 => fr_E hS hA q h9) (fr_E hS hA) (fun r15 u9 t H16 locs ht hvm hw hB hz1 hk1 hS => ?_)
        have hP := af_E hP hk1
        have er15 := hw
        refine lv_ior hx hb dX0_change_69 ?_
        refine va_iast hx hb hK hP hD hS 5 0 rfl rfl (InvX.cIn hIu12 (by subst er15; subst eu12; subst eu2; exact c14)) dX0_change_70 (fun H18 locs hP hD hS => ?_)
        obtain ⟨u17, eu17⟩ : ∃ y : XS, y = xC_ u12 (upd (xC u12) (Int32.toNatClampNeg (xc u12)) (((a1 ||| ((xA u (Int32.toNatClampNeg a1)) <<< ((1 : Int32) &&& 31))) ||| (a2 <<< ((4 : Int32) &&& 31))) ||| r15)) := ⟨_, rfl⟩
        have hP : va_P D vwCl (wX cI cZ h u17) H18 := by rw [eu17]; exact hP
        have hD : va_D A (wX cI cZ h u17) := by rw [eu17]; exact hD
        have hIu17 : InvX u17 := by rw [eu17]; exact InvX.sC hIu12 _
        refine lv_aload_n hx hb dX0_change_71 rfl (lv_at hl 1 rfl) ?_
        refine lv_dup hx hb dX0_change_72 rfl ?_
        refine va_get (D := D) (ci := 0) (v := .int (xc u17)) (C := RX0) (T := TX0) (N := 12) hx hb hts hin hown hK hP 0 rfl rfl 11 (by decide) (hts (.fieldLink RX0 115 "ModeDesk" "changeCount" "I") (by decide +kernel)) (fun _ h9 => h9) rfl dX0_change_73 ?_
        refine lv_iconst (v := 1) hx hb dX0_change_76 (by decide) ?_
        refine lv_iadd hx hb dX0_change_77 ?_
        refine va_put (D := D) (ci := 0) (v := .int ((xc u17) + 1)) (ty := .int) (C := RX0) (T := TX0) (N := 12) hx hb hts hin tyX0 tyX0_ok nmX0 hown hK hP hD hS 0 rfl rfl 11 (by decide) (hts (.fieldLink RX0 115 "ModeDesk" "changeCount" "I") (by decide +kernel)) (fun _ h9 => h9) rfl (by decide +kernel) rfl rfl (Nat.le_of_ble_eq_true rfl) dX0_change_78 (fun H20 locs hP hD hS => ?_)
        obtain ⟨u19, eu19⟩ : ∃ y : XS, y = xc_ u17 ((xc u17) + 1) := ⟨_, rfl⟩
        have hP : va_P D vwCl (wX cI cZ h u19) H20 := by rw [eu19]; exact hP
        have hD : va_D A (wX cI cZ h u19) := by rw [eu19]; exact hD
        have hIu19 : InvX u19 := by rw [eu19]; exact InvX.sc hIu17 (by subst eu17; subst er15; subst eu12; subst eu2; exact c14)
        have hq1 : pX0_change u a1 a2 a3 = u19 := (by subst eu19; subst eu17; subst er15; subst eu12; subst eu2; unfold pX0_change; first | (rw [if_neg c1, if_neg c4, if_neg c14]; done) | (rw [if_neg c1, if_neg c4, if_neg c14]; rfl))
        exact W.vret hx hb hr (fun t ht hW => ⟨⟨u19, rfl, ⟨hq1.symm, hIu19⟩, by rw [ht]; exact hP, va_K.moved hW.alike hK, hD⟩, hS.F ht⟩) hS.2.2 dX0_change_81
  · have hq1 : pX0_change u a1 a2 a3 = u := (by unfold pX0_change; first | (rw [if_pos c1]; done) | (rw [if_pos c1]; rfl))
    exact W.vret hx hb hr (fun t ht hW => ⟨⟨u, rfl, ⟨hq1.symm, hI⟩, by rw [ht]; exact hP, va_K.moved hW.alike hK, hD⟩, hS.F ht⟩) hS.2.2 dX0_change_14
