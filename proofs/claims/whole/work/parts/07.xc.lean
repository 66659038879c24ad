def pX0_leaderFails (u : XS) : Int32 × XS := if (pX0_isOn u) = 0 then ((0, u)) else (if (xS u (Int32.toNatClampNeg (xl u))) = 0 then (if (xS u (Int32.toNatClampNeg (1 - (xl u)))) = 0 then ((1, pX0_turnOff u 1)) else ((1, xl_ u (1 - (xl u))))) else ((0, u)))
set_option maxHeartbeats 4000000 in
set_option maxRecDepth 100000 in
theorem kX0_leaderFails (l : Launch) (D : va_G) (cI cZ : ClassId) (h : Nat → Nat) (sz : Nat) (u : XS) (hI : InvX u) : Mi l yX0_leaderFails wsX0_leaderFails { frames := 3, cells := 0, slots := 0, locals := 66 } D (tyl cI cZ) (wX cI cZ h) sz u [.ref (h 0)] (fun r u9 => (r, u9) = pX0_leaderFails u ∧ InvX u9 ∧ bz r) := by
  refine Met.ofW (cc := cX0_leaderFails) (maxL := 2) (ret := (some .boolean)) (by decide) rfl ?_
  intro p e s m args below meth c s₁ B hml hv
  obtain ⟨rfl, hsz, hP, hK, hD0⟩ := hv
  have hx := B.exec
  have hb := B.bytes
  have hr := B.returns
  have hts := atoms_spec (ws := wsX0_leaderFails) B.pre
  have hin : ∀ w ∈ wsX00, w ∈ wsX0_leaderFails := fun w h9 => List.mem_cons_of_mem _ (List.mem_append_right _ h9)
  have hown : s.vm.findClass RX0 = some m.cls := findClass_of_methodNamed B.named
  have hlocks := B.notSynchronized
  subst hsz
  have hD : va_D (va_A (wX cI cZ h u) s.heap.size) (wX cI cZ h u) := hD0.self (sz := s.heap.size)
  have hA : ∀ q : Nat, s.heap.size ≤ q → va_A (wX cI cZ h u) s.heap.size q := fun q h9 => Or.inr h9
  have hS : va_S (va_A (wX cI cZ h u) s.heap.size) s.heap s.heap [] := va_S.rf
  have hl := lv_entry ([.ref (h 0)]) (n := 2) (Nat.le_of_ble_eq_true rfl)
  rw [lg_entry_eq]
  generalize (lg_sl ([.ref (h 0)]) ++ List.replicate (2 - (lg_sl ([.ref (h 0)])).length) Slot.unset).toArray = ls at hl ⊢
  have hl : lv_has ls 2 [(0, .ref (h 0))] := hl
  generalize va_A (wX cI cZ h u) s.heap.size = A at hD hA hS ⊢
  refine lv_aload_n hx hb dX0_leaderFails_0 rfl (lv_at hl 0 rfl) ?_
  have hFc := va_free (wc := wX cI cZ h u) hD hS hA [0, 1, 2, 3, 4, 5] rfl
  refine va_calli (va_runV (As := []) (rest := []) ⟨hx, hb, hml, hown, hts⟩ (kX0_isOn l D cI cZ h s.heap.size u  hI) (cwV 0 hts gX0_leaderFails_X0_isOn rfl rfl rfl (by decide +kernel) ⟨Nat.le_of_ble_eq_true rfl, Nat.le_of_ble_eq_true rfl⟩) ⟨bl_W, va_recv hK hP (ci := 0) (q0 := 0) rfl rfl, pr_W hP hK hD⟩ rfl rfl hl.1 rfl (lv_room (Nat.le_of_ble_eq_true rfl)) dX0_leaderFails_1 ⟨Nat.zero_le _, Nat.zero_le _⟩) hS (fun q _ h9 => hFc q h9) hFc (fun r1 u3 t H2 locs ht hvm hw hB hz1 hk1 hS => ?_)
  obtain ⟨hP, hK, hD⟩ := af_W hB ht hvm hFc
  clear hFc hB
  obtain ⟨er1, eu3, br1⟩ := hw
  rw [eu3] at hP hD
  refine lv_if_eq (tgt := 19) hx hb dX0_leaderFails_4 (by decide) (fun c4 => ?_) (fun c4 => ?_)
  · refine lv_iconst (v := 0) hx hb dX0_leaderFails_19 (by decide) ?_
    have hq1 : pX0_leaderFails u = (0, u) := (by subst er1; unfold pX0_leaderFails; first | (rw [if_pos c4]; done) | (rw [if_pos c4]; rfl))
    exact W.zret (v := 0) hx hb hr (bz_n bz0) (fun t ht hW => ⟨⟨0, u, rfl, ⟨hq1.symm, hI, bz0⟩, by rw [ht]; exact hP, va_K.moved hW.alike hK, hD⟩, hS.F ht⟩) hS.2.2 dX0_leaderFails_20
  · refine lv_aload_n hx hb dX0_leaderFails_7 rfl (lv_at hl 0 rfl) ?_
    refine va_get (D := D) (ci := 0) (v := .ref (h 4)) (C := RX0) (T := TX0) (N := 12) hx hb hts hin hown hK hP 0 rfl rfl 3 (by decide) (hts (.fieldLink RX0 19 "ModeDesk" "soundness" "[Z") (by decide +kernel)) (fun _ h9 => h9) rfl dX0_leaderFails_8 ?_
    refine lv_aload_n hx hb dX0_leaderFails_11 rfl (lv_at hl 0 rfl) ?_
    refine va_get (D := D) (ci := 0) (v := .int (xl u)) (C := RX0) (T := TX0) (N := 12) hx hb hts hin hown hK hP 0 rfl rfl 4 (by decide) (hts (.fieldLink RX0 111 "ModeDesk" "leader" "I") (by decide +kernel)) (fun _ h9 => h9) rfl dX0_leaderFails_12 ?_
    refine va_zald hx hb hK hP 4 1 rfl rfl (vi_2 hI.1) dX0_leaderFails_15 ?_
    refine lv_if_eq (tgt := 21) hx hb dX0_leaderFails_16 (by decide) (fun c5 => ?_) (fun c5 => ?_)
    · refine lv_iconst (v := 1) hx hb dX0_leaderFails_21 (by decide) ?_
      refine lv_aload_n hx hb dX0_leaderFails_22 rfl (lv_at hl 0 rfl) ?_
      refine va_get (D := D) (ci := 0) (v := .int (xl u)) (C := RX0) (T := TX0) (N := 12) hx hb hts hin hown hK hP 0 rfl rfl 4 (by decide) (hts (.fieldLink RX0 111 "ModeDesk" "leader" "I") (by decide +kernel)) (fun _ h9 => h9) rfl dX0_leaderFails_23 ?_
      refine lv_isub hx hb dX0_leaderFails_26 ?_
      refine lv_istore_n (lv' := [(1, .int (1 - (xl u))), (0, .ref (h 0))]) hx hb dX0_leaderFails_27 rfl hl (by decide) rfl (fun ls hl => ?_)
      refine lv_aload_n hx hb dX0_leaderFails_28 rfl (lv_at hl 1 rfl) ?_
      refine va_get (D := D) (ci := 0) (v := .ref (h 4)) (C := RX0) (T := TX0) (N := 12) hx hb hts hin hown hK hP 0 rfl rfl 3 (by decide) (hts (.fieldLink RX0 19 "ModeDesk" "soundness" "[Z") (by decide +kernel)) (fun _ h9 => h9) rfl dX0_leaderFails_29 ?_
      refine lv_iload_n hx hb dX0_leaderFails_32 rfl (lv_at hl 0 rfl) ?_
      refine va_zald hx hb hK hP 4 1 rfl rfl (vi_2 (bz_s hI.1)) dX0_leaderFails_33 ?_
      refine lv_if_eq (tgt := 45) hx hb dX0_leaderFails_34 (by decide) (fun c6 => ?_) (fun c6 => ?_)
      · refine lv_aload_n hx hb dX0_leaderFails_45 rfl (lv_at hl 1 rfl) ?_
        refine lv_iconst (v := 1) hx hb dX0_leaderFails_46 (by decide) ?_
        have hFc := va_free (wc := wX cI cZ h u) hD hS hA [0, 1, 2, 3, 4, 5] rfl
        refine va_callv (va_runV (As := [.int 1]) (rest := []) ⟨hx, hb, hml, hown, hts⟩ (kX0_turnOff l D cI cZ h H2.size u 1 hI) (cwV 1 hts gX0_leaderFails_X0_turnOff rfl rfl rfl (by decide +kernel) ⟨Nat.le_of_ble_eq_true rfl, Nat.le_of_ble_eq_true rfl⟩) ⟨bl_W, va_recv hK hP (ci := 0) (q0 := 0) rfl rfl, pr_W hP hK hD⟩ rfl rfl hl.1 rfl (lv_room (Nat.le_of_ble_eq_true rfl)) dX0_leaderFails_47 ⟨Nat.zero_le _, Nat.zero_le _⟩) hS (fun q _ h9 => hFc q h9) hFc (fun u9 t H8 locs ht hvm hw hB hz1 hk1 hS => ?_)
        obtain ⟨hP, hK, hD⟩ := af_W hB ht hvm hFc
        clear hFc hB
        obtain ⟨eu9, hIu9⟩ := hw
        refine lv_iconst (v := 1) hx hb dX0_leaderFails_50 (by decide) ?_
        have hq1 : pX0_leaderFails u = (1, u9) := (by subst eu9; subst er1; unfold pX0_leaderFails; first | (rw [if_neg c4, if_pos c5, if_pos c6]; done) | (rw [if_neg c4, if_pos c5, if_pos c6]; rfl))
        exact W.zret (v := 1) hx hb hr (bz_n bz1) (fun t ht hW => ⟨⟨1, u9, rfl, ⟨hq1.symm, hIu9, bz1⟩, by rw [ht]; exact hP, va_K.moved hW.alike hK, hD⟩, hS.F ht⟩) hS.2.2 dX0_leaderFails_51
      · refine lv_aload_n hx hb dX0_leaderFails_37 rfl (lv_at hl 1 rfl) ?_
        refine lv_iload_n hx hb dX0_leaderFails_38 rfl (lv_at hl 0 rfl) ?_
        refine va_put (D := D) (ci := 0) (v := .int (1 - (xl u))) (ty := .int) (C := RX0) (T := TX0) (N := 12) hx hb hts hin tyX0 tyX0_ok nmX0 hown hK hP hD hS 0 rfl rfl 4 (by decide) (hts (.fieldLink RX0 111 "ModeDesk" "leader" "I") (by decide +kernel)) (fun _ h9 => h9) rfl (by decide +kernel) rfl rfl (Nat.le_of_ble_eq_true rfl) dX0_leaderFails_39 (fun H11 locs hP hD hS => ?_)
        obtain ⟨u10, eu10⟩ : ∃ y : XS, y = xl_ u (1 - (xl u)) := ⟨_, rfl⟩
        have hP : va_P D vwCl (wX cI cZ h u10) H11 := by rw [eu10]; exact hP
        have hD : va_D A (wX cI cZ h u10) := by rw [eu10]; exact hD
        have hIu10 : InvX u10 := by rw [eu10]; exact InvX.sl hI (bz_s hI.1)
        refine lv_goto (tgt := 50) hx hb dX0_leaderFails_42 (by decide) ?_
        refine lv_iconst (v := 1) hx hb dX0_leaderFails_50 (by decide) ?_
        have hq1 : pX0_leaderFails u = (1, u10) := (by subst eu10; subst er1; unfold pX0_leaderFails; first | (rw [if_neg c4, if_pos c5, if_neg c6]; done) | (rw [if_neg c4, if_pos c5, if_neg c6]; rfl))
        exact W.zret (v := 1) hx hb hr (bz_n bz1) (fun t ht hW => ⟨⟨1, u10, rfl, ⟨hq1.symm, hIu10, bz1⟩, by rw [ht]; exact hP, va_K.moved hW.alike hK, hD⟩, hS.F ht⟩) hS.2.2 dX0_leaderFails_51
    · refine lv_iconst (v := 0) hx hb dX0_leaderFails_19 (by decide) ?_
      have hq1 : pX0_leaderFails u = (0, u) := (by subst er1; unfold pX0_leaderFails; first | (rw [if_neg c4, if_neg c5]; done) | (rw [if_neg c4, if_neg c5]; rfl))
      exact W.zret (v := 0) hx hb hr (bz_n bz0) (fun t ht hW => ⟨⟨0, u, rfl, ⟨hq1.symm, hI, bz0⟩, by rw [ht]; exact hP, va_K.moved hW.alike hK, hD⟩, hS.F ht⟩) hS.2.2 dX0_leaderFails_20
def pX0_courseIsLost (u : XS) : Int32 × XS := if (xA u (Int32.toNatClampNeg 0)) = 3 then (if (xM u (Int32.toNatClampNeg 5)) = 1 then ((0, u)) else ((1, pX0_leaveCourseFor u 1 1))) else (if (xA u (Int32.toNatClampNeg 0)) = 4 then (if (xM u (Int32.toNatClampNeg 5)) = 1 then ((0, u)) else ((1, pX0_leaveCourseFor u 1 1))) else ((0, u)))
set_option maxHeartbeats 4000000 in
set_option maxRecDepth 100000 in
theorem kX0_courseIsLost (l : Launch) (D : va_G) (cI cZ : ClassId) (h : Nat → Nat) (sz : Nat) (u : XS) (hI : InvX u) : Mi l yX0_courseIsLost wsX0_courseIsLost { frames := 3, cells := 0, slots := 0, locals := 67 } D (tyl cI cZ) (wX cI cZ h) sz u [.ref (h 0)] (fun r u9 => (r, u9) = pX0_courseIsLost u ∧ InvX u9 ∧ bz r) := by
  refine Met.ofW (cc := cX0_courseIsLost) (maxL := 2) (ret := (some .boolean)) (by decide) rfl ?_
  intro p e s m args below meth c s₁ B hml hv
  obtain ⟨rfl, hsz, hP, hK, hD0⟩ := hv
  have hx := B.exec
  have hb := B.bytes
  have hr := B.returns
  have hts := atoms_spec (ws := wsX0_courseIsLost) B.pre
  have hin : ∀ w ∈ wsX00, w ∈ wsX0_courseIsLost := fun w h9 => List.mem_cons_of_mem _ (List.mem_append_right _ h9)
  have hown : s.vm.findClass RX0 = some m.cls := findClass_of_methodNamed B.named
  have hlocks := B.notSynchronized
  subst hsz
  have hD : va_D (va_A (wX cI cZ h u) s.heap.size) (wX cI cZ h u) := hD0.self (sz := s.heap.size)
  have hA : ∀ q : Nat, s.heap.size ≤ q → va_A (wX cI cZ h u) s.heap.size q := fun q h9 => Or.inr h9
  have hS : va_S (va_A (wX cI cZ h u) s.heap.size) s.heap s.heap [] := va_S.rf
  have hl := lv_entry ([.ref (h 0)]) (n := 2) (Nat.le_of_ble_eq_true rfl)
  rw [lg_entry_eq]
  generalize (lg_sl ([.ref (h 0)]) ++ List.replicate (2 - (lg_sl ([.ref (h 0)])).length) Slot.unset).toArray = ls at hl ⊢
  have hl : lv_has ls 2 [(0, .ref (h 0))] := hl
  generalize va_A (wX cI cZ h u) s.heap.size = A at hD hA hS ⊢
  refine lv_aload_n hx hb dX0_courseIsLost_0 rfl (lv_at hl 0 rfl) ?_
  refine va_get (D := D) (ci := 0) (v := .ref (h 1)) (C := RX0) (T := TX0) (N := 12) hx hb hts hin hown hK hP 0 rfl rfl 0 (by decide) (hts (.fieldLink RX0 7 "ModeDesk" "active" "[I") (by decide +kernel)) (fun _ h9 => h9) rfl dX0_courseIsLost_1 ?_
  refine lv_iconst (v := 0) hx hb dX0_courseIsLost_4 (by decide) ?_
  refine va_iald hx hb hK hP 1 0 rfl rfl (vi_c (by decide)) dX0_courseIsLost_5 ?_
  refine lv_iconst (v := 3) hx hb dX0_courseIsLost_6 (by decide) ?_
  refine lv_icmp_eq (tgt := 20) hx hb dX0_courseIsLost_7 (by decide) (fun c1 => ?_) (fun c1 => ?_)
  · refine lv_iconst (v := 1) hx hb dX0_courseIsLost_20 (by decide) ?_
    refine lv_goto (tgt := 25) hx hb dX0_courseIsLost_21 (by decide) ?_
    refine lv_istore_n (lv' := [(1, .int 1), (0, .ref (h 0))]) hx hb dX0_courseIsLost_25 rfl hl (by decide) rfl (fun ls hl => ?_)
    refine lv_iload_n hx hb dX0_courseIsLost_26 rfl (lv_at hl 0 rfl) ?_
    refine lv_if_eq (tgt := 40) hx hb dX0_courseIsLost_27 (by decide) (fun c9 => absurd c9 (by decide)) (fun _ => ?_)
    refine lv_aload_n hx hb dX0_courseIsLost_30 rfl (lv_at hl 1 rfl) ?_
    refine va_get (D := D) (ci := 0) (v := .ref (h 3)) (C := RX0) (T := TX0) (N := 12) hx hb hts hin hown hK hP 0 rfl rfl 2 (by decide) (hts (.fieldLink RX0 16 "ModeDesk" "measures" "[I") (by decide +kernel)) (fun _ h9 => h9) rfl dX0_courseIsLost_31 ?_
    refine lv_iconst (v := 5) hx hb dX0_courseIsLost_34 (by decide) ?_
    refine va_iald hx hb hK hP 3 0 rfl rfl (vi_c (by decide)) dX0_courseIsLost_35 ?_
    refine lv_iconst (v := 1) hx hb dX0_courseIsLost_36 (by decide) ?_
    refine lv_icmp_ne (tgt := 42) hx hb dX0_courseIsLost_37 (by decide) (fun c2 => ?_) (fun c2 => ?_)
    · refine lv_aload_n hx hb dX0_courseIsLost_42 rfl (lv_at hl 1 rfl) ?_
      refine lv_iconst (v := 1) hx hb dX0_courseIsLost_43 (by decide) ?_
      refine lv_iconst (v := 1) hx hb dX0_courseIsLost_44 (by decide) ?_
      have hFc := va_free (wc := wX cI cZ h u) hD hS hA [0, 1, 2, 3, 4, 5] rfl
      refine va_callv (va_runV (As := [.int 1, .int 1]) (rest := []) ⟨hx, hb, hml, hown, hts⟩ (kX0_leaveCourseFor l D cI cZ h s.heap.size u 1 1 hI) (cwV 2 hts gX0_courseIsLost_X0_leaveCourseFor rfl rfl rfl (by decide +kernel) ⟨Nat.le_of_ble_eq_true rfl, Nat.le_of_ble_eq_true rfl⟩) ⟨bl_W, va_recv hK hP (ci := 0) (q0 := 0) rfl rfl, pr_W hP hK hD⟩ rfl rfl hl.1 rfl (lv_room (Nat.le_of_ble_eq_true rfl)) dX0_courseIsLost_45 ⟨Nat.zero_le _, Nat.zero_le _⟩) hS (fun q _ h9 => hFc q h9) hFc (fun u5 t H4 locs ht hvm hw hB hz1 hk1 hS => ?_)
      obtain ⟨hP, hK, hD⟩ := af_W hB ht hvm hFc
      clear hFc hB
      obtain ⟨eu5, hIu5⟩ := hw
      refine lv_iconst (v := 1) hx hb dX0_courseIsLost_48 (by decide) ?_
      have hq1 : pX0_courseIsLost u = (1, u5) := (by subst eu5; unfold pX0_courseIsLost; first | (rw [if_pos c1, if_neg c2]; done) | (rw [if_pos c1, if_neg c2]; rfl))
      exact W.zret (v := 1) hx hb hr (bz_n bz1) (fun t ht hW => ⟨⟨1, u5, rfl, ⟨hq1.symm, hIu5, bz1⟩, by rw [ht]; exact hP, va_K.moved hW.alike hK, hD⟩, hS.F ht⟩) hS.2.2 dX0_courseIsLost_49
    · refine lv_iconst (v := 0) hx hb dX0_courseIsLost_40 (by decide) ?_
      have hq1 : pX0_courseIsLost u = (0, u) := (by unfold pX0_courseIsLost; first | (rw [if_pos c1, if_pos c2]; done) | (rw [if_pos c1, if_pos c2]; rfl))
      exact W.zret (v := 0) hx hb hr (bz_n bz0) (fun t ht hW => ⟨⟨0, u, rfl, ⟨hq1.symm, hI, bz0⟩, by rw [ht]; exact hP, va_K.moved hW.alike hK, hD⟩, hS.F ht⟩) hS.2.2 dX0_courseIsLost_41
  · refine lv_aload_n hx hb dX0_courseIsLost_10 rfl (lv_at hl 0 rfl) ?_
    refine va_get (D := D) (ci := 0) (v := .ref (h 1)) (C := RX0) (T := TX0) (N := 12) hx hb hts hin hown hK hP 0 rfl rfl 0 (by decide) (hts (.fieldLink RX0 7 "ModeDesk" "active" "[I") (by decide +kernel)) (fun _ h9 => h9) rfl dX0_courseIsLost_11 ?_
    refine lv_iconst (v := 0) hx hb dX0_courseIsLost_14 (by decide) ?_
    refine va_iald hx hb hK hP 1 0 rfl rfl (vi_c (by decide)) dX0_courseIsLost_15 ?_
    refine lv_iconst (v := 4) hx hb dX0_courseIsLost_16 (by decide) ?_
    refine lv_icmp_ne (tgt := 24) hx hb dX0_courseIsLost_17 (by decide) (fun c6 => ?_) (fun c6 => ?_)
    · refine lv_iconst (v := 0) hx hb dX0_courseIsLost_24 (by decide) ?_
      refine lv_istore_n (lv' := [(1, .int 0), (0, .ref (h 0))]) hx hb dX0_courseIsLost_25 rfl hl (by decide) rfl (fun ls hl => ?_)
      refine lv_iload_n hx hb dX0_courseIsLost_26 rfl (lv_at hl 0 rfl) ?_
      refine lv_if_eq (tgt := 40) hx hb dX0_courseIsLost_27 (by decide) (fun _ => ?_) (fun c9 => absurd (by decide) c9)
      refine lv_iconst (v := 0) hx hb dX0_courseIsLost_40 (by decide) ?_
      have hq1 : pX0_courseIsLost u = (0, u) := (by unfold pX0_courseIsLost; first | (rw [if_neg c1, if_neg c6]; done) | (rw [if_neg c1, if_neg c6]; rfl))
      exact W.zret (v := 0) hx hb hr (bz_n bz0) (fun t ht hW => ⟨⟨0, u, rfl, ⟨hq1.symm, hI, bz0⟩, by rw [ht]; exact hP, va_K.moved hW.alike hK, hD⟩, hS.F ht⟩) hS.2.2 dX0_courseIsLost_41
    · refine lv_iconst (v := 1) hx hb dX0_courseIsLost_20 (by decide) ?_
      refine lv_goto (tgt := 25) hx hb dX0_courseIsLost_21 (by decide) ?_
      refine lv_istore_n (lv' := [(1, .int 1), (0, .ref (h 0))]) hx hb dX0_courseIsLost_25 rfl hl (by decide) rfl (fun ls hl => ?_)
      refine lv_iload_n hx hb dX0_courseIsLost_26 rfl (lv_at hl 0 rfl) ?_
      refine lv_if_eq (tgt := 40) hx hb dX0_courseIsLost_27 (by decide) (fun c9 => absurd c9 (by decide)) (fun _ => ?_)
      refine lv_aload_n hx hb dX0_courseIsLost_30 rfl (lv_at hl 1 rfl) ?_
      refine va_get (D := D) (ci := 0) (v := .ref (h 3)) (C := RX0) (T := TX0) (N := 12) hx hb hts hin hown hK hP 0 rfl rfl 2 (by decide) (hts (.fieldLink RX0 16 "ModeDesk" "measures" "[I") (by decide +kernel)) (fun _ h9 => h9) rfl dX0_courseIsLost_31 ?_
      refine lv_iconst (v := 5) hx hb dX0_courseIsLost_34 (by decide) ?_
      refine va_iald hx hb hK hP 3 0 rfl rfl (vi_c (by decide)) dX0_courseIsLost_35 ?_
      refine lv_iconst (v := 1) hx hb dX0_courseIsLost_36 (by decide) ?_
      refine lv_icmp_ne (tgt := 42) hx hb dX0_courseIsLost_37 (by decide) (fun c7 => ?_) (fun c7 => ?_)
      · refine lv_aload_n hx hb dX0_courseIsLost_42 rfl (lv_at hl 1 rfl) ?_
        refine lv_iconst (v := 1) hx hb dX0_courseIsLost_43 (by decide) ?_
        refine lv_iconst (v := 1) hx hb dX0_courseIsLost_44 (by decide) ?_
        have hFc := va_free (wc := wX cI cZ h u) hD hS hA [0, 1, 2, 3, 4, 5] rfl
        refine va_callv (va_runV (As := [.int 1, .int 1]) (rest := []) ⟨hx, hb, hml, hown, hts⟩ (kX0_leaveCourseFor l D cI cZ h s.heap.size u 1 1 hI) (cwV 2 hts gX0_courseIsLost_X0_leaveCourseFor rfl rfl rfl (by decide +kernel) ⟨Nat.le_of_ble_eq_true rfl, Nat.le_of_ble_eq_true rfl⟩) ⟨bl_W, va_recv hK hP (ci := 0) (q0 := 0) rfl rfl, pr_W hP hK hD⟩ rfl rfl hl.1 rfl (lv_room (Nat.le_of_ble_eq_true rfl)) dX0_courseIsLost_45 ⟨Nat.zero_le _, Nat.zero_le _⟩) hS (fun q _ h9 => hFc q h9) hFc (fun u10 t H9 locs ht hvm hw hB hz1 hk1 hS => ?_)
        obtain ⟨hP, hK, hD⟩ := af_W hB ht hvm hFc
        clear hFc hB
        obtain ⟨eu10, hIu10⟩ := hw
        refine lv_iconst (v := 1) hx hb dX0_courseIsLost_48 (by decide) ?_
        have hq1 : pX0_courseIsLost u = (1, u10) := (by subst eu10; unfold pX0_courseIsLost; first | (rw [if_neg c1, if_pos c6, if_neg c7]; done) | (rw [if_neg c1, if_pos c6, if_neg c7]; rfl))
        exact W.zret (v := 1) hx hb hr (bz_n bz1) (fun t ht hW => ⟨⟨1, u10, rfl, ⟨hq1.symm, hIu10, bz1⟩, by rw [ht]; exact hP, va_K.moved hW.alike hK, hD⟩, hS.F ht⟩) hS.2.2 dX0_courseIsLost_49
      · refine lv_iconst (v := 0) hx hb dX0_courseIsLost_40 (by decide) ?_
        have hq1 : pX0_courseIsLost u = (0, u) := (by unfold pX0_courseIsLost; first | (rw [if_neg c1, if_pos c6, if_pos c7]; done) | (rw [if_neg c1, if_pos c6, if_pos c7]; rfl))
        exact W.zret (v := 0) hx hb hr (bz_n bz0) (fun t ht hW => ⟨⟨0, u, rfl, ⟨hq1.symm, hI, bz0⟩, by rw [ht]; exact hP, va_K.moved hW.alike hK, hD⟩, hS.F ht⟩) hS.2.2 dX0_courseIsLost_41
def pX0_pathIsLost (u : XS) : Int32 × XS := if (xM u (Int32.toNatClampNeg 6)) = 1 then (if (xA u (Int32.toNatClampNeg 0)) = 4 then (if (xA u (Int32.toNatClampNeg 1)) = 6 then ((0, u)) else ((0, u))) else (if (xA u (Int32.toNatClampNeg 1)) = 6 then ((1, pX0_change u 1 1 1)) else ((0, u)))) else (if (xA u (Int32.toNatClampNeg 1)) = 6 then ((1, pX0_change u 1 1 1)) else ((0, u)))
set_option maxHeartbeats 4000000 in
set_option maxRecDepth 100000 in
theorem kX0_pathIsLost (l : Launch) (D : va_G) (cI cZ : ClassId) (h : Nat → Nat) (sz : Nat) (u : XS) (hI : InvX u) : Mi l yX0_pathIsLost wsX0_pathIsLost { frames := 2, cells := 0, slots := 0, locals := 45 } D (tyl cI cZ) (wX cI cZ h) sz u [.ref (h 0)] (fun r u9 => (r, u9) = pX0_pathIsLost u ∧ InvX u9 ∧ bz r) := by
  refine Met.ofW (cc := cX0_pathIsLost) (maxL := 2) (ret := (some .boolean)) (by decide) rfl ?_
  intro p e s m args below meth c s₁ B hml hv
  obtain ⟨rfl, hsz, hP, hK, hD0⟩ := hv
  have hx := B.exec
  have hb := B.bytes
  have hr := B.returns
  have hts := atoms_spec (ws := wsX0_pathIsLost) B.pre
  have hin : ∀ w ∈ wsX00, w ∈ wsX0_pathIsLost := fun w h9 => List.mem_cons_of_mem _ (List.mem_append_right _ h9)
  have hown : s.vm.findClass RX0 = some m.cls := findClass_of_methodNamed B.named
  have hlocks := B.notSynchronized
  subst hsz
  have hD : va_D (va_A (wX cI cZ h u) s.heap.size) (wX cI cZ h u) := hD0.self (sz := s.heap.size)
  have hA : ∀ q : Nat, s.heap.size ≤ q → va_A (wX cI cZ h u) s.heap.size q := fun q h9 => Or.inr h9
  have hS : va_S (va_A (wX cI cZ h u) s.heap.size) s.heap s.heap [] := va_S.rf
  have hl := lv_entry ([.ref (h 0)]) (n := 2) (Nat.le_of_ble_eq_true rfl)
  rw [lg_entry_eq]
  generalize (lg_sl ([.ref (h 0)]) ++ List.replicate (2 - (lg_sl ([.ref (h 0)])).length) Slot.unset).toArray = ls at hl ⊢
  have hl : lv_has ls 2 [(0, .ref (h 0))] := hl
  generalize va_A (wX cI cZ h u) s.heap.size = A at hD hA hS ⊢
  refine lv_aload_n hx hb dX0_pathIsLost_0 rfl (lv_at hl 0 rfl) ?_
  refine va_get (D := D) (ci := 0) (v := .ref (h 3)) (C := RX0) (T := TX0) (N := 12) hx hb hts hin hown hK hP 0 rfl rfl 2 (by decide) (hts (.fieldLink RX0 16 "ModeDesk" "measures" "[I") (by decide +kernel)) (fun _ h9 => h9) rfl dX0_pathIsLost_1 ?_
  refine lv_bipush (v := 6) hx hb dX0_pathIsLost_4 (by decide) ?_
  refine va_iald hx hb hK hP 3 0 rfl rfl (vi_c (by decide)) dX0_pathIsLost_6 ?_
  refine lv_iconst (v := 1) hx hb dX0_pathIsLost_7 (by decide) ?_
  refine lv_icmp_ne (tgt := 25) hx hb dX0_pathIsLost_8 (by decide) (fun c1 => ?_) (fun c1 => ?_)
  · refine lv_iconst (v := 0) hx hb dX0_pathIsLost_25 (by decide) ?_
    refine lv_istore_n (lv' := [(1, .int 0), (0, .ref (h 0))]) hx hb dX0_pathIsLost_26 rfl hl (by decide) rfl (fun ls hl => ?_)
    refine lv_aload_n hx hb dX0_pathIsLost_27 rfl (lv_at hl 1 rfl) ?_
    refine va_get (D := D) (ci := 0) (v := .ref (h 1)) (C := RX0) (T := TX0) (N := 12) hx hb hts hin hown hK hP 0 rfl rfl 0 (by decide) (hts (.fieldLink RX0 7 "ModeDesk" "active" "[I") (by decide +kernel)) (fun _ h9 => h9) rfl dX0_pathIsLost_28 ?_
    refine lv_iconst (v := 1) hx hb dX0_pathIsLost_31 (by decide) ?_
    refine va_iald hx hb hK hP 1 0 rfl rfl (vi_c (by decide)) dX0_pathIsLost_32 ?_
    refine lv_bipush (v := 6) hx hb dX0_pathIsLost_33 (by decide) ?_
    refine lv_icmp_ne (tgt := 42) hx hb dX0_pathIsLost_35 (by decide) (fun c2 => ?_) (fun c2 => ?_)
    · refine lv_iconst (v := 0) hx hb dX0_pathIsLost_42 (by decide) ?_
      have hq1 : pX0_pathIsLost u = (0, u) := (by unfold pX0_pathIsLost; first | (rw [if_neg c1, if_neg c2]; done) | (rw [if_neg c1, if_neg c2]; rfl))
      exact W.zret (v := 0) hx hb hr (bz_n bz0) (fun t ht hW => ⟨⟨0, u, rfl, ⟨hq1.symm, hI, bz0⟩, by rw [ht]; exact hP, va_K.moved hW.alike hK, hD⟩, hS.F ht⟩) hS.2.2 dX0_pathIsLost_43
    · refine lv_iload_n hx hb dX0_pathIsLost_38 rfl (lv_at hl 0 rfl) ?_
      refine lv_if_eq (tgt := 44) hx hb dX0_pathIsLost_39 (by decide) (fun _ => ?_) (fun c9 => absurd (by decide) c9)
      refine lv_aload_n hx hb dX0_pathIsLost_44 rfl (lv_at hl 1 rfl) ?_
      refine lv_iconst (v := 1) hx hb dX0_pathIsLost_45 (by decide) ?_
      refine lv_iconst (v := 1) hx hb dX0_pathIsLost_46 (by decide) ?_
      refine lv_iconst (v := 1) hx hb dX0_pathIsLost_47 (by decide) ?_
      have hFc := va_free (wc := wX cI cZ h u) hD hS hA [0, 1, 2, 3, 4, 5] rfl
      refine va_callv (va_runV (As := [.int 1, .int 1, .int 1]) (rest := []) ⟨hx, hb, hml, hown, hts⟩ (kX0_change l D cI cZ h s.heap.size u 1 1 1 hI bz1) (cwV 3 hts gX0_pathIsLost_X0_change rfl rfl rfl (by decide +kernel) ⟨Nat.le_of_ble_eq_true rfl, Nat.le_of_ble_eq_true rfl⟩) ⟨bl_W, va_recv hK hP (ci := 0) (q0 := 0) rfl rfl, pr_W hP hK hD⟩ rfl rfl hl.1 rfl (lv_room (Nat.le_of_ble_eq_true rfl)) dX0_pathIsLost_48 ⟨Nat.zero_le _, Nat.zero_le _⟩) hS (fun q _ h9 => hFc q h9) hFc (fun u5 t H4 locs ht hvm hw hB hz1 hk1 hS => ?_)
      obtain ⟨hP, hK, hD⟩ := af_W hB ht hvm hFc
      clear hFc hB
      obtain ⟨eu5, hIu5⟩ := hw
      refine lv_iconst (v := 1) hx hb dX0_pathIsLost_51 (by decide) ?_
      have hq1 : pX0_pathIsLost u = (1, u5) := (by subst eu5; unfold pX0_pathIsLost; first | (rw [if_neg c1, if_pos c2]; done) | (rw [if_neg c1, if_pos c2]; rfl))
      exact W.zret (v := 1) hx hb hr (bz_n bz1) (fun t ht hW => ⟨⟨1, u5, rfl, ⟨hq1.symm, hIu5, bz1⟩, by rw [ht]; exact hP, va_K.moved hW.alike hK, hD⟩, hS.F ht⟩) hS.2.2 dX0_pathIsLost_52
  · refine lv_aload_n hx hb dX0_pathIsLost_11 rfl (lv_at hl 0 rfl) ?_
    refine va_get (D := D) (ci := 0) (v := .ref (h 1)) (C := RX0) (T := TX0) (N := 12) hx hb hts hin hown hK hP 0 rfl rfl 0 (by decide) (hts (.fieldLink RX0 7 "ModeDesk" "active" "[I") (by decide +kernel)) (fun _ h9 => h9) rfl dX0_pathIsLost_12 ?_
    refine lv_iconst (v := 0) hx hb dX0_pathIsLost_15 (by decide) ?_
    refine va_iald hx hb hK hP 1 0 rfl rfl (vi_c (by decide)) dX0_pathIsLost_16 ?_
    refine lv_iconst (v := 4) hx hb dX0_pathIsLost_17 (by decide) ?_
    refine lv_icmp_ne (tgt := 25) hx hb dX0_pathIsLost_18 (by decide) (fun c6 => ?_) (fun c6 => ?_)
    · refine lv_iconst (v := 0) hx hb dX0_pathIsLost_25 (by decide) ?_
      refine lv_istore_n (lv' := [(1, .int 0), (0, .ref (h 0))]) hx hb dX0_pathIsLost_26 rfl hl (by decide) rfl (fun ls hl => ?_)
      refine lv_aload_n hx hb dX0_pathIsLost_27 rfl (lv_at hl 1 rfl) ?_
      refine va_get (D := D) (ci := 0) (v := .ref (h 1)) (C := RX0) (T := TX0) (N := 12) hx hb hts hin hown hK hP 0 rfl rfl 0 (by decide) (hts (.fieldLink RX0 7 "ModeDesk" "active" "[I") (by decide +kernel)) (fun _ h9 => h9) rfl dX0_pathIsLost_28 ?_
      refine lv_iconst (v := 1) hx hb dX0_pathIsLost_31 (by decide) ?_
      refine va_iald hx hb hK hP 1 0 rfl rfl (vi_c (by decide)) dX0_pathIsLost_32 ?_
      refine lv_bipush (v := 6) hx hb dX0_pathIsLost_33 (by decide) ?_
      refine lv_icmp_ne (tgt := 42) hx hb dX0_pathIsLost_35 (by decide) (fun c7 => ?_) (fun c7 => ?_)
      · refine lv_iconst (v := 0) hx hb dX0_pathIsLost_42 (by decide) ?_
        have hq1 : pX0_pathIsLost u = (0, u) := (by unfold pX0_pathIsLost; first | (rw [if_pos c1, if_neg c6, if_neg c7]; done) | (rw [if_pos c1, if_neg c6, if_neg c7]; rfl))
        exact W.zret (v := 0) hx hb hr (bz_n bz0) (fun t ht hW => ⟨⟨0, u, rfl, ⟨hq1.symm, hI, bz0⟩, by rw [ht]; exact hP, va_K.moved hW.alike hK, hD⟩, hS.F ht⟩) hS.2.2 dX0_pathIsLost_43
      · refine lv_iload_n hx hb dX0_pathIsLost_38 rfl (lv_at hl 0 rfl) ?_
        refine lv_if_eq (tgt := 44) hx hb dX0_pathIsLost_39 (by decide) (fun _ => ?_) (fun c9 => absurd (by decide) c9)
        refine lv_aload_n hx hb dX0_pathIsLost_44 rfl (lv_at hl 1 rfl) ?_
        refine lv_iconst (v := 1) hx hb dX0_pathIsLost_45 (by decide) ?_
        refine lv_iconst (v := 1) hx hb dX0_pathIsLost_46 (by decide) ?_
        refine lv_iconst (v := 1) hx hb dX0_pathIsLost_47 (by decide) ?_
        have hFc := va_free (wc := wX cI cZ h u) hD hS hA [0, 1, 2, 3, 4, 5] rfl
        refine va_callv (va_runV (As := [.int 1, .int 1, .int 1]) (rest := []) ⟨hx, hb, hml, hown, hts⟩ (kX0_change l D cI cZ h s.heap.size u 1 1 1 hI bz1) (cwV 3 hts gX0_pathIsLost_X0_change rfl rfl rfl (by decide +kernel) ⟨Nat.le_of_ble_eq_true rfl, Nat.le_of_ble_eq_true rfl⟩) ⟨bl_W, va_recv hK hP (ci := 0) (q0 := 0) rfl rfl, pr_W hP hK hD⟩ rfl rfl hl.1 rfl (lv_room (Nat.le_of_ble_eq_true rfl)) dX0_pathIsLost_48 ⟨Nat.zero_le _, Nat.zero_le _⟩) hS (fun q _ h9 => hFc q h9) hFc (fun u10 t H9 locs ht hvm hw hB hz1 hk1 hS => ?_)
        obtain ⟨hP, hK, hD⟩ := af_W hB ht hvm hFc
        clear hFc hB
        obtain ⟨eu10, hIu10⟩ := hw
        refine lv_iconst (v := 1) hx hb dX0_pathIsLost_51 (by decide) ?_
        have hq1 : pX0_pathIsLost u = (1, u10) := (by subst eu10; unfold pX0_pathIsLost; first | (rw [if_pos c1, if_neg c6, if_pos c7]; done) | (rw [if_pos c1, if_neg c6, if_pos c7]; rfl))
        exact W.zret (v := 1) hx hb hr (bz_n bz1) (fun t ht hW => ⟨⟨1, u10, rfl, ⟨hq1.symm, hIu10, bz1⟩, by rw [ht]; exact hP, va_K.moved hW.alike hK, hD⟩, hS.F ht⟩) hS.2.2 dX0_pathIsLost_52
    · refine lv_iconst (v := 1) hx hb dX0_pathIsLost_21 (by decide) ?_
      refine lv_goto (tgt := 26) hx hb dX0_pathIsLost_22 (by decide) ?_
      refine lv_istore_n (lv' := [(1, .int 1), (0, .ref (h 0))]) hx hb dX0_pathIsLost_26 rfl hl (by decide) rfl (fun ls hl => ?_)
      refine lv_aload_n hx hb dX0_pathIsLost_27 rfl (lv_at hl 1 rfl) ?_
      refine va_get (D := D) (ci := 0) (v := .ref (h 1)) (C := RX0) (T := TX0) (N := 12) hx hb hts hin hown hK hP 0 rfl rfl 0 (by decide) (hts (.fieldLink RX0 7 "ModeDesk" "active" "[I") (by decide +kernel)) (fun _ h9 => h9) rfl dX0_pathIsLost_28 ?_
      refine lv_iconst (v := 1) hx hb dX0_pathIsLost_31 (by decide) ?_
      refine va_iald hx hb hK hP 1 0 rfl rfl (vi_c (by decide)) dX0_pathIsLost_32 ?_
      refine lv_bipush (v := 6) hx hb dX0_pathIsLost_33 (by decide) ?_
      refine lv_icmp_ne (tgt := 42) hx hb dX0_pathIsLost_35 (by decide) (fun c11 => ?_) (fun c11 => ?_)
      · refine lv_iconst (v := 0) hx hb dX0_pathIsLost_42 (by decide) ?_
        have hq1 : pX0_pathIsLost u = (0, u) := (by unfold pX0_pathIsLost; first | (rw [if_pos c1, if_pos c6, if_neg c11]; done) | (rw [if_pos c1, if_pos c6, if_neg c11]; rfl))
        exact W.zret (v := 0) hx hb hr (bz_n bz0) (fun t ht hW => ⟨⟨0, u, rfl, ⟨hq1.symm, hI, bz0⟩, by rw [ht]; exact hP, va_K.moved hW.alike hK, hD⟩, hS.F ht⟩) hS.2.2 dX0_pathIsLost_43
      · refine lv_iload_n hx hb dX0_pathIsLost_38 rfl (lv_at hl 0 rfl) ?_
        refine lv_if_eq (tgt := 44) hx hb dX0_pathIsLost_39 (by decide) (fun c9 => absurd c9 (by decide)) (fun _ => ?_)
        refine lv_iconst (v := 0) hx hb dX0_pathIsLost_42 (by decide) ?_
        have hq1 : pX0_pathIsLost u = (0, u) := (by unfold pX0_pathIsLost; first | (rw [if_pos c1, if_pos c6, if_pos c11]; done) | (rw [if_pos c1, if_pos c6, if_pos c11]; rfl))
        exact W.zret (v := 0) hx hb hr (bz_n bz0) (fun t ht hW => ⟨⟨0, u, rfl, ⟨hq1.symm, hI, bz0⟩, by rw [ht]; exact hP, va_K.moved hW.alike hK, hD⟩, hS.F ht⟩) hS.2.2 dX0_pathIsLost_43
def pX0_navIsReached (u : XS) : Int32 × XS := if (xn u) = 0 then ((0, u)) else (if (pX0_isCourseWithin u 150) = 0 then ((0, u)) else ((1, xn_ (pX0_change u 0 3 1) 0)))
set_option maxHeartbeats 4000000 in
set_option maxRecDepth 100000 in
theorem kX0_navIsReached (l : Launch) (D : va_G) (cI cZ : ClassId) (h : Nat → Nat) (sz : Nat) (u : XS) (hI : InvX u) : Mi l yX0_navIsReached wsX0_navIsReached { frames := 2, cells := 0, slots := 0, locals := 45 } D (tyl cI cZ) (wX cI cZ h) sz u [.ref (h 0)] (fun r u9 => (r, u9) = pX0_navIsReached u ∧ InvX u9 ∧ bz r) := by
  refine Met.ofW (cc := cX0_navIsReached) (maxL := 1) (ret := (some .boolean)) (by decide) rfl ?_
  intro p e s m args below meth c s₁ B hml hv
  obtain ⟨rfl, hsz, hP, hK, hD0⟩ := hv
  have hx := B.exec
  have hb := B.bytes
  have hr := B.returns
  have hts := atoms_spec (ws := wsX0_navIsReached) B.pre
  have hin : ∀ w ∈ wsX00, w ∈ wsX0_navIsReached := fun w h9 => List.mem_cons_of_mem _ (List.mem_append_right _ h9)
  have hown : s.vm.findClass RX0 = some m.cls := findClass_of_methodNamed B.named
  have hlocks := B.notSynchronized
  subst hsz
  have hD : va_D (va_A (wX cI cZ h u) s.heap.size) (wX cI cZ h u) := hD0.self (sz := s.heap.size)
  have hA : ∀ q : Nat, s.heap.size ≤ q → va_A (wX cI cZ h u) s.heap.size q := fun q h9 => Or.inr h9
  have hS : va_S (va_A (wX cI cZ h u) s.heap.size) s.heap s.heap [] := va_S.rf
  have hl := lv_entry ([.ref (h 0)]) (n := 1) (Nat.le_of_ble_eq_true rfl)
  rw [lg_entry_eq]
  generalize (lg_sl ([.ref (h 0)]) ++ List.replicate (1 - (lg_sl ([.ref (h 0)])).length) Slot.unset).toArray = ls at hl ⊢
  have hl : lv_has ls 1 [(0, .ref (h 0))] := hl
  generalize va_A (wX cI cZ h u) s.heap.size = A at hD hA hS ⊢
  refine lv_aload_n hx hb dX0_navIsReached_0 rfl (lv_at hl 0 rfl) ?_
  refine va_get (D := D) (ci := 0) (v := .int (xn u)) (C := RX0) (T := TX0) (N := 12) hx hb hts hin hown hK hP 0 rfl rfl 5 (by decide) (hts (.fieldLink RX0 90 "ModeDesk" "navArmed" "Z") (by decide +kernel)) (fun _ h9 => h9) rfl dX0_navIsReached_1 ?_
  refine lv_if_eq (tgt := 17) hx hb dX0_navIsReached_4 (by decide) (fun c1 => ?_) (fun c1 => ?_)
  · refine lv_iconst (v := 0) hx hb dX0_navIsReached_17 (by decide) ?_
    have hq1 : pX0_navIsReached u = (0, u) := (by unfold pX0_navIsReached; first | (rw [if_pos c1]; done) | (rw [if_pos c1]; rfl))
    exact W.zret (v := 0) hx hb hr (bz_n bz0) (fun t ht hW => ⟨⟨0, u, rfl, ⟨hq1.symm, hI, bz0⟩, by rw [ht]; exact hP, va_K.moved hW.alike hK, hD⟩, hS.F ht⟩) hS.2.2 dX0_navIsReached_18
  · refine lv_aload_n hx hb dX0_navIsReached_7 rfl (lv_at hl 0 rfl) ?_
    refine lv_sipush (v := 150) hx hb dX0_navIsReached_8 (by decide) ?_
    have hFc := va_free (wc := wX cI cZ h u) hD hS hA [0, 1, 2, 3, 4, 5] rfl
    refine va_calli (va_runV (As := [.int 150]) (rest := []) ⟨hx, hb, hml, hown, hts⟩ (kX0_isCourseWithin l D cI cZ h s.heap.size u 150 hI) (cwV 1 hts gX0_navIsReached_X0_isCourseWithin rfl rfl rfl (by decide +kernel) ⟨Nat.le_of_ble_eq_true rfl, Nat.le_of_ble_eq_true rfl⟩) ⟨bl_W, va_recv hK hP (ci := 0) (q0 := 0) rfl rfl, pr_W hP hK hD⟩ rfl rfl hl.1 rfl (lv_room (Nat.le_of_ble_eq_true rfl)) dX0_navIsReached_11 ⟨Nat.zero_le _, Nat.zero_le _⟩) hS (fun q _ h9 => hFc q h9) hFc (fun r2 u4 t H3 locs ht hvm hw hB hz1 hk1 hS => ?_)
    obtain ⟨hP, hK, hD⟩ := af_W hB ht hvm hFc
    clear hFc hB
    obtain ⟨er2, eu4, br2⟩ := hw
    rw [eu4] at hP hD
    refine lv_if_ne (tgt := 19) hx hb dX0_navIsReached_14 (by decide) (fun c5 => ?_) (fun c5 => ?_)
    · refine lv_aload_n hx hb dX0_navIsReached_19 rfl (lv_at hl 0 rfl) ?_
      refine lv_iconst (v := 0) hx hb dX0_navIsReached_20 (by decide) ?_
      refine lv_iconst (v := 3) hx hb dX0_navIsReached_21 (by decide) ?_
      refine lv_iconst (v := 1) hx hb dX0_navIsReached_22 (by decide) ?_
      have hFc := va_free (wc := wX cI cZ h u) hD hS hA [0, 1, 2, 3, 4, 5] rfl
      refine va_callv (va_runV (As := [.int 0, .int 3, .int 1]) (rest := []) ⟨hx, hb, hml, hown, hts⟩ (kX0_change l D cI cZ h H3.size u 0 3 1 hI bz0) (cwV 3 hts gX0_navIsReached_X0_change rfl rfl rfl (by decide +kernel) ⟨Nat.le_of_ble_eq_true rfl, Nat.le_of_ble_eq_true rfl⟩) ⟨bl_W, va_recv hK hP (ci := 0) (q0 := 0) rfl rfl, pr_W hP hK hD⟩ rfl rfl hl.1 rfl (lv_room (Nat.le_of_ble_eq_true rfl)) dX0_navIsReached_23 ⟨Nat.zero_le _, Nat.zero_le _⟩) hS (fun q _ h9 => hFc q h9) hFc (fun u8 t H7 locs ht hvm hw hB hz1 hk1 hS => ?_)
      obtain ⟨hP, hK, hD⟩ := af_W hB ht hvm hFc
      clear hFc hB
      obtain ⟨eu8, hIu8⟩ := hw
      refine lv_aload_n hx hb dX0_navIsReached_26 rfl (lv_at hl 0 rfl) ?_
      refine lv_iconst (v := 0) hx hb dX0_navIsReached_27 (by decide) ?_
      refine va_put (D := D) (ci := 0) (v := .int 0) (ty := .boolean) (C := RX0) (T := TX0) (N := 12) hx hb hts hin tyX0 tyX0_ok nmX0 hown hK hP hD hS 0 rfl rfl 5 (by decide) (hts (.fieldLink RX0 90 "ModeDesk" "navArmed" "Z") (by decide +kernel)) (fun _ h9 => h9) rfl (by decide +kernel) (bz_n bz0) (bz_f bz0) (Nat.le_of_ble_eq_true rfl) dX0_navIsReached_28 (fun H10 locs hP hD hS => ?_)
      obtain ⟨u9, eu9⟩ : ∃ y : XS, y = xn_ u8 0 := ⟨_, rfl⟩
      have hP : va_P D vwCl (wX cI cZ h u9) H10 := by rw [eu9]; exact hP
      have hD : va_D A (wX cI cZ h u9) := by rw [eu9]; exact hD
      have hIu9 : InvX u9 := by rw [eu9]; exact InvX.sn hIu8 bz0
      refine lv_iconst (v := 1) hx hb dX0_navIsReached_31 (by decide) ?_
      have hq1 : pX0_navIsReached u = (1, u9) := (by subst eu9; subst eu8; subst er2; unfold pX0_navIsReached; first | (rw [if_neg c1, if_neg c5]; done) | (rw [if_neg c1, if_neg c5]; rfl))
      exact W.zret (v := 1) hx hb hr (bz_n bz1) (fun t ht hW => ⟨⟨1, u9, rfl, ⟨hq1.symm, hIu9, bz1⟩, by rw [ht]; exact hP, va_K.moved hW.alike hK, hD⟩, hS.F ht⟩) hS.2.2 dX0_navIsReached_32
    · refine lv_iconst (v := 0) hx hb dX0_navIsReached_17 (by decide) ?_
      have hq1 : pX0_navIsReached u = (0, u) := (by subst er2; unfold pX0_navIsReached; first | (rw [if_neg c1, if_pos c5]; done) | (rw [if_neg c1, if_pos c5]; rfl))
      exact W.zret (v := 0) hx hb hr (bz_n bz0) (fun t ht hW => ⟨⟨0, u, rfl, ⟨hq1.symm, hI, bz0⟩, by rw [ht]; exact hP, va_K.moved hW.alike hK, hD⟩, hS.F ht⟩) hS.2.2 dX0_navIsReached_18
def pX0_approachIsReached (u : XS) : Int32 × XS := if (xa u) = 0 then ((0, u)) else (if (pX0_isCourseWithin u 100) = 0 then ((0, u)) else ((1, xa_ (pX0_change u 0 4 1) 0)))
set_option maxHeartbeats 4000000 in
set_option maxRecDepth 100000 in
theorem kX0_approachIsReached (l : Launch) (D : va_G) (cI cZ : ClassId) (h : Nat → Nat) (sz : Nat) (u : XS) (hI : InvX u) : Mi l yX0_approachIsReached wsX0_approachIsReached { frames := 2, cells := 0, slots := 0, locals := 45 } D (tyl cI cZ) (wX cI cZ h) sz u [.ref (h 0)] (fun r u9 => (r, u9) = pX0_approachIsReached u ∧ InvX u9 ∧ bz r) := by
  refine Met.ofW (cc := cX0_approachIsReached) (maxL := 1) (ret := (some .boolean)) (by decide) rfl ?_
  intro p e s m args below meth c s₁ B hml hv
  obtain ⟨rfl, hsz, hP, hK, hD0⟩ := hv
  have hx := B.exec
  have hb := B.bytes
  have hr := B.returns
  have hts := atoms_spec (ws := wsX0_approachIsReached) B.pre
  have hin : ∀ w ∈ wsX00, w ∈ wsX0_approachIsReached := fun w h9 => List.mem_cons_of_mem _ (List.mem_append_right _ h9)
  have hown : s.vm.findClass RX0 = some m.cls := findClass_of_methodNamed B.named
  have hlocks := B.notSynchronized
  subst hsz
  have hD : va_D (va_A (wX cI cZ h u) s.heap.size) (wX cI cZ h u) := hD0.self (sz := s.heap.size)
  have hA : ∀ q : Nat, s.heap.size ≤ q → va_A (wX cI cZ h u) s.heap.size q := fun q h9 => Or.inr h9
  have hS : va_S (va_A (wX cI cZ h u) s.heap.size) s.heap s.heap [] := va_S.rf
  have hl := lv_entry ([.ref (h 0)]) (n := 1) (Nat.le_of_ble_eq_true rfl)
  rw [lg_entry_eq]
  generalize (lg_sl ([.ref (h 0)]) ++ List.replicate (1 - (lg_sl ([.ref (h 0)])).length) Slot.unset).toArray = ls at hl ⊢
  have hl : lv_has ls 1 [(0, .ref (h 0))] := hl
  generalize va_A (wX cI cZ h u) s.heap.size = A at hD hA hS ⊢
  refine lv_aload_n hx hb dX0_approachIsReached_0 rfl (lv_at hl 0 rfl) ?_
  refine va_get (D := D) (ci := 0) (v := .int (xa u)) (C := RX0) (T := TX0) (N := 12) hx hb hts hin hown hK hP 0 rfl rfl 6 (by decide) (hts (.fieldLink RX0 93 "ModeDesk" "approachArmed" "Z") (by decide +kernel)) (fun _ h9 => h9) rfl dX0_approachIsReached_1 ?_
  refine lv_if_eq (tgt := 16) hx hb dX0_approachIsReached_4 (by decide) (fun c1 => ?_) (fun c1 => ?_)
  · refine lv_iconst (v := 0) hx hb dX0_approachIsReached_16 (by decide) ?_
    have hq1 : pX0_approachIsReached u = (0, u) := (by unfold pX0_approachIsReached; first | (rw [if_pos c1]; done) | (rw [if_pos c1]; rfl))
    exact W.zret (v := 0) hx hb hr (bz_n bz0) (fun t ht hW => ⟨⟨0, u, rfl, ⟨hq1.symm, hI, bz0⟩, by rw [ht]; exact hP, va_K.moved hW.alike hK, hD⟩, hS.F ht⟩) hS.2.2 dX0_approachIsReached_17
  · refine lv_aload_n hx hb dX0_approachIsReached_7 rfl (lv_at hl 0 rfl) ?_
    refine lv_bipush (v := 100) hx hb dX0_approachIsReached_8 (by decide) ?_
    have hFc := va_free (wc := wX cI cZ h u) hD hS hA [0, 1, 2, 3, 4, 5] rfl
    refine va_calli (va_runV (As := [.int 100]) (rest := []) ⟨hx, hb, hml, hown, hts⟩ (kX0_isCourseWithin l D cI cZ h s.heap.size u 100 hI) (cwV 1 hts gX0_approachIsReached_X0_isCourseWithin rfl rfl rfl (by decide +kernel) ⟨Nat.le_of_ble_eq_true rfl, Nat.le_of_ble_eq_true rfl⟩) ⟨bl_W, va_recv hK hP (ci := 0) (q0 := 0) rfl rfl, pr_W hP hK hD⟩ rfl rfl hl.1 rfl (lv_room (Nat.le_of_ble_eq_true rfl)) dX0_approachIsReached_10 ⟨Nat.zero_le _, Nat.zero_le _⟩) hS (fun q _ h9 => hFc q h9) hFc (fun r2 u4 t H3 locs ht hvm hw hB hz1 hk1 hS => ?_)
    obtain ⟨hP, hK, hD⟩ := af_W hB ht hvm hFc
    clear hFc hB
    obtain ⟨er2, eu4, br2⟩ := hw
    rw [eu4] at hP hD
    refine lv_if_ne (tgt := 18) hx hb dX0_approachIsReached_13 (by decide) (fun c5 => ?_) (fun c5 => ?_)
    · refine lv_aload_n hx hb dX0_approachIsReached_18 rfl (lv_at hl 0 rfl) ?_
      refine lv_iconst (v := 0) hx hb dX0_approachIsReached_19 (by decide) ?_
      refine lv_iconst (v := 4) hx hb dX0_approachIsReached_20 (by decide) ?_
      refine lv_iconst (v := 1) hx hb dX0_approachIsReached_21 (by decide) ?_
      have hFc := va_free (wc := wX cI cZ h u) hD hS hA [0, 1, 2, 3, 4, 5] rfl
      refine va_callv (va_runV (As := [.int 0, .int 4, .int 1]) (rest := []) ⟨hx, hb, hml, hown, hts⟩ (kX0_change l D cI cZ h H3.size u 0 4 1 hI bz0) (cwV 3 hts gX0_approachIsReached_X0_change rfl rfl rfl (by decide +kernel) ⟨Nat.le_of_ble_eq_true rfl, Nat.le_of_ble_eq_true rfl⟩) ⟨bl_W, va_recv hK hP (ci := 0) (q0 := 0) rfl rfl, pr_W hP hK hD⟩ rfl rfl hl.1 rfl (lv_room (Nat.le_of_ble_eq_true rfl)) dX0_approachIsReached_22 ⟨Nat.zero_le _, Nat.zero_le _⟩) hS (fun q _ h9 => hFc q h9) hFc (fun u8 t H7 locs ht hvm hw hB hz1 hk1 hS => ?_)
      obtain ⟨hP, hK, hD⟩ := af_W hB ht hvm hFc
      clear hFc hB
      obtain ⟨eu8, hIu8⟩ := hw
      refine lv_aload_n hx hb dX0_approachIsReached_25 rfl (lv_at hl 0 rfl) ?_
      refine lv_iconst (v := 0) hx hb dX0_approachIsReached_26 (by decide) ?_
      refine va_put (D := D) (ci := 0) (v := .int 0) (ty := .boolean) (C := RX0) (T := TX0) (N := 12) hx hb hts hin tyX0 tyX0_ok nmX0 hown hK hP hD hS 0 rfl rfl 6 (by decide) (hts (.fieldLink RX0 93 "ModeDesk" "approachArmed" "Z") (by decide +kernel)) (fun _ h9 => h9) rfl (by decide +kernel) (bz_n bz0) (bz_f bz0) (Nat.le_of_ble_eq_true rfl) dX0_approachIsReached_27 (fun H10 locs hP hD hS => ?_)
      obtain ⟨u9, eu9⟩ : ∃ y : XS, y = xa_ u8 0 := ⟨_, rfl⟩
      have hP : va_P D vwCl (wX cI cZ h u9) H10 := by rw [eu9]; exact hP
      have hD : va_D A (wX cI cZ h u9) := by rw [eu9]; exact hD
      have hIu9 : InvX u9 := by rw [eu9]; exact InvX.sa hIu8 bz0
      refine lv_iconst (v := 1) hx hb dX0_approachIsReached_30 (by decide) ?_
      have hq1 : pX0_approachIsReached u = (1, u9) := (by subst eu9; subst eu8; subst er2; unfold pX0_approachIsReached; first | (rw [if_neg c1, if_neg c5]; done) | (rw [if_neg c1, if_neg c5]; rfl))
      exact W.zret (v := 1) hx hb hr (bz_n bz1) (fun t ht hW => ⟨⟨1, u9, rfl, ⟨hq1.symm, hIu9, bz1⟩, by rw [ht]; exact hP, va_K.moved hW.alike hK, hD⟩, hS.F ht⟩) hS.2.2 dX0_approachIsReached_31
    · refine lv_iconst (v := 0) hx hb dX0_approachIsReached_16 (by decide) ?_
      have hq1 : pX0_approachIsReached u = (0, u) := (by subst er2; unfold pX0_approachIsReached; first | (rw [if_neg c1, if_pos c5]; done) | (rw [if_neg c1, if_pos c5]; rfl))
      exact W.zret (v := 0) hx hb hr (bz_n bz0) (fun t ht hW => ⟨⟨0, u, rfl, ⟨hq1.symm, hI, bz0⟩, by rw [ht]; exact hP, va_K.moved hW.alike hK, hD⟩, hS.F ht⟩) hS.2.2 dX0_approachIsReached_17
def pX0_glideIsReached (u : XS) : Int32 × XS := if (xg u) = 0 then ((0, u)) else (if (xA u (Int32.toNatClampNeg 0)) = 4 then (if (pX0_isPathWithin u 80) = 0 then ((0, u)) else ((1, xg_ (pX0_change u 1 6 1) 0))) else ((0, u)))
set_option maxHeartbeats 4000000 in
set_option maxRecDepth 100000 in
theorem kX0_glideIsReached (l : Launch) (D : va_G) (cI cZ : ClassId) (h : Nat → Nat) (sz : Nat) (u : XS) (hI : InvX u) : Mi l yX0_glideIsReached wsX0_glideIsReached { frames := 2, cells := 0, slots := 0, locals := 45 } D (tyl cI cZ) (wX cI cZ h) sz u [.ref (h 0)] (fun r u9 => (r, u9) = pX0_glideIsReached u ∧ InvX u9 ∧ bz r) := by
  refine Met.ofW (cc := cX0_glideIsReached) (maxL := 1) (ret := (some .boolean)) (by decide) rfl ?_
  intro p e s m args below meth c s₁ B hml hv
  obtain ⟨rfl, hsz, hP, hK, hD0⟩ := hv
  have hx := B.exec
  have hb := B.bytes
  have hr := B.returns
  have hts := atoms_spec (ws := wsX0_glideIsReached) B.pre
  have hin : ∀ w ∈ wsX00, w ∈ wsX0_glideIsReached := fun w h9 => List.mem_cons_of_mem _ (List.mem_append_right _ h9)
  have hown : s.vm.findClass RX0 = some m.cls := findClass_of_methodNamed B.named
  have hlocks := B.notSynchronized
  subst hsz
  have hD : va_D (va_A (wX cI cZ h u) s.heap.size) (wX cI cZ h u) := hD0.self (sz := s.heap.size)
  have hA : ∀ q : Nat, s.heap.size ≤ q → va_A (wX cI cZ h u) s.heap.size q := fun q h9 => Or.inr h9
  have hS : va_S (va_A (wX cI cZ h u) s.heap.size) s.heap s.heap [] := va_S.rf
  have hl := lv_entry ([.ref (h 0)]) (n := 1) (Nat.le_of_ble_eq_true rfl)
  rw [lg_entry_eq]
  generalize (lg_sl ([.ref (h 0)]) ++ List.replicate (1 - (lg_sl ([.ref (h 0)])).length) Slot.unset).toArray = ls at hl ⊢
  have hl : lv_has ls 1 [(0, .ref (h 0))] := hl
  generalize va_A (wX cI cZ h u) s.heap.size = A at hD hA hS ⊢
  refine lv_aload_n hx hb dX0_glideIsReached_0 rfl (lv_at hl 0 rfl) ?_
  refine va_get (D := D) (ci := 0) (v := .int (xg u)) (C := RX0) (T := TX0) (N := 12) hx hb hts hin hown hK hP 0 rfl rfl 7 (by decide) (hts (.fieldLink RX0 96 "ModeDesk" "glideArmed" "Z") (by decide +kernel)) (fun _ h9 => h9) rfl dX0_glideIsReached_1 ?_
  refine lv_if_eq (tgt := 26) hx hb dX0_glideIsReached_4 (by decide) (fun c1 => ?_) (fun c1 => ?_)
  · refine lv_iconst (v := 0) hx hb dX0_glideIsReached_26 (by decide) ?_
    have hq1 : pX0_glideIsReached u = (0, u) := (by unfold pX0_glideIsReached; first | (rw [if_pos c1]; done) | (rw [if_pos c1]; rfl))
    exact W.zret (v := 0) hx hb hr (bz_n bz0) (fun t ht hW => ⟨⟨0, u, rfl, ⟨hq1.symm, hI, bz0⟩, by rw [ht]; exact hP, va_K.moved hW.alike hK, hD⟩, hS.F ht⟩) hS.2.2 dX0_glideIsReached_27
  · refine lv_aload_n hx hb dX0_glideIsReached_7 rfl (lv_at hl 0 rfl) ?_
    refine va_get (D := D) (ci := 0) (v := .ref (h 1)) (C := RX0) (T := TX0) (N := 12) hx hb hts hin hown hK hP 0 rfl rfl 0 (by decide) (hts (.fieldLink RX0 7 "ModeDesk" "active" "[I") (by decide +kernel)) (fun _ h9 => h9) rfl dX0_glideIsReached_8 ?_
    refine lv_iconst (v := 0) hx hb dX0_glideIsReached_11 (by decide) ?_
    refine va_iald hx hb hK hP 1 0 rfl rfl (vi_c (by decide)) dX0_glideIsReached_12 ?_
    refine lv_iconst (v := 4) hx hb dX0_glideIsReached_13 (by decide) ?_
    refine lv_icmp_ne (tgt := 26) hx hb dX0_glideIsReached_14 (by decide) (fun c2 => ?_) (fun c2 => ?_)
    · refine lv_iconst (v := 0) hx hb dX0_glideIsReached_26 (by decide) ?_
      have hq1 : pX0_glideIsReached u = (0, u) := (by unfold pX0_glideIsReached; first | (rw [if_neg c1, if_neg c2]; done) | (rw [if_neg c1, if_neg c2]; rfl))
      exact W.zret (v := 0) hx hb hr (bz_n bz0) (fun t ht hW => ⟨⟨0, u, rfl, ⟨hq1.symm, hI, bz0⟩, by rw [ht]; exact hP, va_K.moved hW.alike hK, hD⟩, hS.F ht⟩) hS.2.2 dX0_glideIsReached_27
    · refine lv_aload_n hx hb dX0_glideIsReached_17 rfl (lv_at hl 0 rfl) ?_
      refine lv_bipush (v := 80) hx hb dX0_glideIsReached_18 (by decide) ?_
      have hFc := va_free (wc := wX cI cZ h u) hD hS hA [0, 1, 2, 3, 4, 5] rfl
      refine va_calli (va_runV (As := [.int 80]) (rest := []) ⟨hx, hb, hml, hown, hts⟩ (kX0_isPathWithin l D cI cZ h s.heap.size u 80 hI) (cwV 1 hts gX0_glideIsReached_X0_isPathWithin rfl rfl rfl (by decide +kernel) ⟨Nat.le_of_ble_eq_true rfl, Nat.le_of_ble_eq_true rfl⟩) ⟨bl_W, va_recv hK hP (ci := 0) (q0 := 0) rfl rfl, pr_W hP hK hD⟩ rfl rfl hl.1 rfl (lv_room (Nat.le_of_ble_eq_true rfl)) dX0_glideIsReached_20 ⟨Nat.zero_le _, Nat.zero_le _⟩) hS (fun q _ h9 => hFc q h9) hFc (fun r3 u5 t H4 locs ht hvm hw hB hz1 hk1 hS => ?_)
      obtain ⟨hP, hK, hD⟩ := af_W hB ht hvm hFc
      clear hFc hB
      obtain ⟨er3, eu5, br3⟩ := hw
      rw [eu5] at hP hD
      refine lv_if_ne (tgt := 28) hx hb dX0_glideIsReached_23 (by decide) (fun c6 => ?_) (fun c6 => ?_)
      · refine lv_aload_n hx hb dX0_glideIsReached_28 rfl (lv_at hl 0 rfl) ?_
        refine lv_iconst (v := 1) hx hb dX0_glideIsReached_29 (by decide) ?_
        refine lv_bipush (v := 6) hx hb dX0_glideIsReached_30 (by decide) ?_
        refine lv_iconst (v := 1) hx hb dX0_glideIsReached_32 (by decide) ?_
        have hFc := va_free (wc := wX cI cZ h u) hD hS hA [0, 1, 2, 3, 4, 5] rfl
        refine va_callv (va_runV (As := [.int 1, .int 6, .int 1]) (rest := []) ⟨hx, hb, hml, hown, hts⟩ (kX0_change l D cI cZ h H4.size u 1 6 1 hI bz1) (cwV 3 hts gX0_glideIsReached_X0_change rfl rfl rfl (by decide +kernel) ⟨Nat.le_of_ble_eq_true rfl, Nat.le_of_ble_eq_true rfl⟩) ⟨bl_W, va_recv hK hP (ci := 0) (q0 := 0) rfl rfl, pr_W hP hK hD⟩ rfl rfl hl.1 rfl (lv_room (Nat.le_of_ble_eq_true rfl)) dX0_glideIsReached_33 ⟨Nat.zero_le _, Nat.zero_le _⟩) hS (fun q _ h9 => hFc q h9) hFc (fun u9 t H8 locs ht hvm hw hB hz1 hk1 hS => ?_)
        obtain ⟨hP, hK, hD⟩ := af_W hB ht hvm hFc
        clear hFc hB
        obtain ⟨eu9, hIu9⟩ := hw
        refine lv_aload_n hx hb dX0_glideIsReached_36 rfl (lv_at hl 0 rfl) ?_
        refine lv_iconst (v := 0) hx hb dX0_glideIsReached_37 (by decide) ?_
        refine va_put (D := D) (ci := 0) (v := .int 0) (ty := .boolean) (C := RX0) (T := TX0) (N := 12) hx hb hts hin tyX0 tyX0_ok nmX0 hown hK hP hD hS 0 rfl rfl 7 (by decide) (hts (.fieldLink RX0 96 "ModeDesk" "glideArmed" "Z") (by decide +kernel)) (fun _ h9 => h9) rfl (by decide +kernel) (bz_n bz0) (bz_f bz0) (Nat.le_of_ble_eq_true rfl) dX0_glideIsReached_38 (fun H11 locs hP hD hS => ?_)
        obtain ⟨u10, eu10⟩ : ∃ y : XS, y = xg_ u9 0 := ⟨_, rfl⟩
        have hP : va_P D vwCl (wX cI cZ h u10) H11 := by rw [eu10]; exact hP
        have hD : va_D A (wX cI cZ h u10) := by rw [eu10]; exact hD
        have hIu10 : InvX u10 := by rw [eu10]; exact InvX.sg hIu9 bz0
        refine lv_iconst (v := 1) hx hb dX0_glideIsReached_41 (by decide) ?_
        have hq1 : pX0_glideIsReached u = (1, u10) := (by subst eu10; subst eu9; subst er3; unfold pX0_glideIsReached; first | (rw [if_neg c1, if_pos c2, if_neg c6]; done) | (rw [if_neg c1, if_pos c2, if_neg c6]; rfl))
        exact W.zret (v := 1) hx hb hr (bz_n bz1) (fun t ht hW => ⟨⟨1, u10, rfl, ⟨hq1.symm, hIu10, bz1⟩, by rw [ht]; exact hP, va_K.moved hW.alike hK, hD⟩, hS.F ht⟩) hS.2.2 dX0_glideIsReached_42
      · refine lv_iconst (v := 0) hx hb dX0_glideIsReached_26 (by decide) ?_
        have hq1 : pX0_glideIsReached u = (0, u) := (by subst er3; unfold pX0_glideIsReached; first | (rw [if_neg c1, if_pos c2, if_pos c6]; done) | (rw [if_neg c1, if_pos c2, if_pos c6]; rfl))
        exact W.zret (v := 0) hx hb hr (bz_n bz0) (fun t ht hW => ⟨⟨0, u, rfl, ⟨hq1.symm, hI, bz0⟩, by rw [ht]; exact hP, va_K.moved hW.alike hK, hD⟩, hS.F ht⟩) hS.2.2 dX0_glideIsReached_27
def pX0_heightComesNear (u : XS) : Int32 × XS := if (pX0_isCaptureArmed u) = 0 then ((0, u)) else (if (pX0_isHeightWithin u 400) = 0 then ((0, u)) else ((1, pX0_change u 1 5 1)))
set_option maxHeartbeats 4000000 in
set_option maxRecDepth 100000 in
theorem kX0_heightComesNear (l : Launch) (D : va_G) (cI cZ : ClassId) (h : Nat → Nat) (sz : Nat) (u : XS) (hI : InvX u) : Mi l yX0_heightComesNear wsX0_heightComesNear { frames := 2, cells := 0, slots := 0, locals := 45 } D (tyl cI cZ) (wX cI cZ h) sz u [.ref (h 0)] (fun r u9 => (r, u9) = pX0_heightComesNear u ∧ InvX u9 ∧ bz r) := by
  refine Met.ofW (cc := cX0_heightComesNear) (maxL := 1) (ret := (some .boolean)) (by decide) rfl ?_
  intro p e s m args below meth c s₁ B hml hv
  obtain ⟨rfl, hsz, hP, hK, hD0⟩ := hv
  have hx := B.exec
  have hb := B.bytes
  have hr := B.returns
  have hts := atoms_spec (ws := wsX0_heightComesNear) B.pre
  have hin : ∀ w ∈ wsX00, w ∈ wsX0_heightComesNear := fun w h9 => List.mem_cons_of_mem _ (List.mem_append_right _ h9)
  have hown : s.vm.findClass RX0 = some m.cls := findClass_of_methodNamed B.named
  have hlocks := B.notSynchronized
  subst hsz
  have hD : va_D (va_A (wX cI cZ h u) s.heap.size) (wX cI cZ h u) := hD0.self (sz := s.heap.size)
  have hA : ∀ q : Nat, s.heap.size ≤ q → va_A (wX cI cZ h u) s.heap.size q := fun q h9 => Or.inr h9
  have hS : va_S (va_A (wX cI cZ h u) s.heap.size) s.heap s.heap [] := va_S.rf
  have hl := lv_entry ([.ref (h 0)]) (n := 1) (Nat.le_of_ble_eq_true rfl)
  rw [lg_entry_eq]
  generalize (lg_sl ([.ref (h 0)]) ++ List.replicate (1 - (lg_sl ([.ref (h 0)])).length) Slot.unset).toArray = ls at hl ⊢
  have hl : lv_has ls 1 [(0, .ref (h 0))] := hl
  generalize va_A (wX cI cZ h u) s.heap.size = A at hD hA hS ⊢
  refine lv_aload_n hx hb dX0_heightComesNear_0 rfl (lv_at hl 0 rfl) ?_
  have hFc := va_free (wc := wX cI cZ h u) hD hS hA [0, 1, 2, 3, 4, 5] rfl
  refine va_calli (va_runV (As := []) (rest := []) ⟨hx, hb, hml, hown, hts⟩ (kX0_isCaptureArmed l D cI cZ h s.heap.size u  hI) (cwV 0 hts gX0_heightComesNear_X0_isCaptureArmed rfl rfl rfl (by decide +kernel) ⟨Nat.le_of_ble_eq_true rfl, Nat.le_of_ble_eq_true rfl⟩) ⟨bl_W, va_recv hK hP (ci := 0) (q0 := 0) rfl rfl, pr_W hP hK hD⟩ rfl rfl hl.1 rfl (lv_room (Nat.le_of_ble_eq_true rfl)) dX0_heightComesNear_1 ⟨Nat.zero_le _, Nat.zero_le _⟩) hS (fun q _ h9 => hFc q h9) hFc (fun r1 u3 t H2 locs ht hvm hw hB hz1 hk1 hS => ?_)
  obtain ⟨hP, hK, hD⟩ := af_W hB ht hvm hFc
  clear hFc hB
  obtain ⟨er1, eu3, br1⟩ := hw
  rw [eu3] at hP hD
  refine lv_if_eq (tgt := 17) hx hb dX0_heightComesNear_4 (by decide) (fun c4 => ?_) (fun c4 => ?_)
  · refine lv_iconst (v := 0) hx hb dX0_heightComesNear_17 (by decide) ?_
    have hq1 : pX0_heightComesNear u = (0, u) := (by subst er1; unfold pX0_heightComesNear; first | (rw [if_pos c4]; done) | (rw [if_pos c4]; rfl))
    exact W.zret (v := 0) hx hb hr (bz_n bz0) (fun t ht hW => ⟨⟨0, u, rfl, ⟨hq1.symm, hI, bz0⟩, by rw [ht]; exact hP, va_K.moved hW.alike hK, hD⟩, hS.F ht⟩) hS.2.2 dX0_heightComesNear_18
  · refine lv_aload_n hx hb dX0_heightComesNear_7 rfl (lv_at hl 0 rfl) ?_
    refine lv_sipush (v := 400) hx hb dX0_heightComesNear_8 (by decide) ?_
    have hFc := va_free (wc := wX cI cZ h u) hD hS hA [0, 1, 2, 3, 4, 5] rfl
    refine va_calli (va_runV (As := [.int 400]) (rest := []) ⟨hx, hb, hml, hown, hts⟩ (kX0_isHeightWithin l D cI cZ h H2.size u 400 hI) (cwV 1 hts gX0_heightComesNear_X0_isHeightWithin rfl rfl rfl (by decide +kernel) ⟨Nat.le_of_ble_eq_true rfl, Nat.le_of_ble_eq_true rfl⟩) ⟨bl_W, va_recv hK hP (ci := 0) (q0 := 0) rfl rfl, pr_W hP hK hD⟩ rfl rfl hl.1 rfl (lv_room (Nat.le_of_ble_eq_true rfl)) dX0_heightComesNear_11 ⟨Nat.zero_le _, Nat.zero_le _⟩) hS (fun q _ h9 => hFc q h9) hFc (fun r5 u7 t H6 locs ht hvm hw hB hz1 hk1 hS => ?_)
    obtain ⟨hP, hK, hD⟩ := af_W hB ht hvm hFc
    clear hFc hB
    obtain ⟨er5, eu7, br5⟩ := hw
    rw [eu7] at hP hD
    refine lv_if_ne (tgt := 19) hx hb dX0_heightComesNear_14 (by decide) (fun c8 => ?_) (fun c8 => ?_)
    · refine lv_aload_n hx hb dX0_heightComesNear_19 rfl (lv_at hl 0 rfl) ?_
      refine lv_iconst (v := 1) hx hb dX0_heightComesNear_20 (by decide) ?_
      refine lv_iconst (v := 5) hx hb dX0_heightComesNear_21 (by decide) ?_
      refine lv_iconst (v := 1) hx hb dX0_heightComesNear_22 (by decide) ?_
      have hFc := va_free (wc := wX cI cZ h u) hD hS hA [0, 1, 2, 3, 4, 5] rfl
      refine va_callv (va_runV (As := [.int 1, .int 5, .int 1]) (rest := []) ⟨hx, hb, hml, hown, hts⟩ (kX0_change l D cI cZ h H6.size u 1 5 1 hI bz1) (cwV 3 hts gX0_heightComesNear_X0_change rfl rfl rfl (by decide +kernel) ⟨Nat.le_of_ble_eq_true rfl, Nat.le_of_ble_eq_true rfl⟩) ⟨bl_W, va_recv hK hP (ci := 0) (q0 := 0) rfl rfl, pr_W hP hK hD⟩ rfl rfl hl.1 rfl (lv_room (Nat.le_of_ble_eq_true rfl)) dX0_heightComesNear_23 ⟨Nat.zero_le _, Nat.zero_le _⟩) hS (fun q _ h9 => hFc q h9) hFc (fun u11 t H10 locs ht hvm hw hB hz1 hk1 hS => ?_)
      obtain ⟨hP, hK, hD⟩ := af_W hB ht hvm hFc
      clear hFc hB
      obtain ⟨eu11, hIu11⟩ := hw
      refine lv_iconst (v := 1) hx hb dX0_heightComesNear_26 (by decide) ?_
      have hq1 : pX0_heightComesNear u = (1, u11) := (by subst eu11; subst er5; subst er1; unfold pX0_heightComesNear; first | (rw [if_neg c4, if_neg c8]; done) | (rw [if_neg c4, if_neg c8]; rfl))
      exact W.zret (v := 1) hx hb hr (bz_n bz1) (fun t ht hW => ⟨⟨1, u11, rfl, ⟨hq1.symm, hIu11, bz1⟩, by rw [ht]; exact hP, va_K.moved hW.alike hK, hD⟩, hS.F ht⟩) hS.2.2 dX0_heightComesNear_27
    · refine lv_iconst (v := 0) hx hb dX0_heightComesNear_17 (by decide) ?_
      have hq1 : pX0_heightComesNear u = (0, u) := (by subst er5; subst er1; unfold pX0_heightComesNear; first | (rw [if_neg c4, if_pos c8]; done) | (rw [if_neg c4, if_pos c8]; rfl))
      exact W.zret (v := 0) hx hb hr (bz_n bz0) (fun t ht hW => ⟨⟨0, u, rfl, ⟨hq1.symm, hI, bz0⟩, by rw [ht]; exact hP, va_K.moved hW.alike hK, hD⟩, hS.F ht⟩) hS.2.2 dX0_heightComesNear_18
def pX0_heightIsReached (u : XS) : Int32 × XS := if (xA u (Int32.toNatClampNeg 1)) = 5 then (if (pX0_isHeightWithin u 20) = 0 then ((0, u)) else ((1, pX0_change u 1 4 1))) else ((0, u))
set_option maxHeartbeats 4000000 in
set_option maxRecDepth 100000 in
theorem kX0_heightIsReached (l : Launch) (D : va_G) (cI cZ : ClassId) (h : Nat → Nat) (sz : Nat) (u : XS) (hI : InvX u) : Mi l yX0_heightIsReached wsX0_heightIsReached { frames := 2, cells := 0, slots := 0, locals := 45 } D (tyl cI cZ) (wX cI cZ h) sz u [.ref (h 0)] (fun r u9 => (r, u9) = pX0_heightIsReached u ∧ InvX u9 ∧ bz r) := by
  refine Met.ofW (cc := cX0_heightIsReached) (maxL := 1) (ret := (some .boolean)) (by decide) rfl ?_
  intro p e s m args below meth c s₁ B hml hv
  obtain ⟨rfl, hsz, hP, hK, hD0⟩ := hv
  have hx := B.exec
  have hb := B.bytes
  have hr := B.returns
  have hts := atoms_spec (ws := wsX0_heightIsReached) B.pre
  have hin : ∀ w ∈ wsX00, w ∈ wsX0_heightIsReached := fun w h9 => List.mem_cons_of_mem _ (List.mem_append_right _ h9)
  have hown : s.vm.findClass RX0 = some m.cls := findClass_of_methodNamed B.named
  have hlocks := B.notSynchronized
  subst hsz
  have hD : va_D (va_A (wX cI cZ h u) s.heap.size) (wX cI cZ h u) := hD0.self (sz := s.heap.size)
  have hA : ∀ q : Nat, s.heap.size ≤ q → va_A (wX cI cZ h u) s.heap.size q := fun q h9 => Or.inr h9
  have hS : va_S (va_A (wX cI cZ h u) s.heap.size) s.heap s.heap [] := va_S.rf
  have hl := lv_entry ([.ref (h 0)]) (n := 1) (Nat.le_of_ble_eq_true rfl)
  rw [lg_entry_eq]
  generalize (lg_sl ([.ref (h 0)]) ++ List.replicate (1 - (lg_sl ([.ref (h 0)])).length) Slot.unset).toArray = ls at hl ⊢
  have hl : lv_has ls 1 [(0, .ref (h 0))] := hl
  generalize va_A (wX cI cZ h u) s.heap.size = A at hD hA hS ⊢
  refine lv_aload_n hx hb dX0_heightIsReached_0 rfl (lv_at hl 0 rfl) ?_
  refine va_get (D := D) (ci := 0) (v := .ref (h 1)) (C := RX0) (T := TX0) (N := 12) hx hb hts hin hown hK hP 0 rfl rfl 0 (by decide) (hts (.fieldLink RX0 7 "ModeDesk" "active" "[I") (by decide +kernel)) (fun _ h9 => h9) rfl dX0_heightIsReached_1 ?_
  refine lv_iconst (v := 1) hx hb dX0_heightIsReached_4 (by decide) ?_
  refine va_iald hx hb hK hP 1 0 rfl rfl (vi_c (by decide)) dX0_heightIsReached_5 ?_
  refine lv_iconst (v := 5) hx hb dX0_heightIsReached_6 (by decide) ?_
  refine lv_icmp_ne (tgt := 19) hx hb dX0_heightIsReached_7 (by decide) (fun c1 => ?_) (fun c1 => ?_)
  · refine lv_iconst (v := 0) hx hb dX0_heightIsReached_19 (by decide) ?_
    have hq1 : pX0_heightIsReached u = (0, u) := (by unfold pX0_heightIsReached; first | (rw [if_neg c1]; done) | (rw [if_neg c1]; rfl))
    exact W.zret (v := 0) hx hb hr (bz_n bz0) (fun t ht hW => ⟨⟨0, u, rfl, ⟨hq1.symm, hI, bz0⟩, by rw [ht]; exact hP, va_K.moved hW.alike hK, hD⟩, hS.F ht⟩) hS.2.2 dX0_heightIsReached_20
  · refine lv_aload_n hx hb dX0_heightIsReached_10 rfl (lv_at hl 0 rfl) ?_
    refine lv_bipush (v := 20) hx hb dX0_heightIsReached_11 (by decide) ?_
    have hFc := va_free (wc := wX cI cZ h u) hD hS hA [0, 1, 2, 3, 4, 5] rfl
    refine va_calli (va_runV (As := [.int 20]) (rest := []) ⟨hx, hb, hml, hown, hts⟩ (kX0_isHeightWithin l D cI cZ h s.heap.size u 20 hI) (cwV 1 hts gX0_heightIsReached_X0_isHeightWithin rfl rfl rfl (by decide +kernel) ⟨Nat.le_of_ble_eq_true rfl, Nat.le_of_ble_eq_true rfl⟩) ⟨bl_W, va_recv hK hP (ci := 0) (q0 := 0) rfl rfl, pr_W hP hK hD⟩ rfl rfl hl.1 rfl (lv_room (Nat.le_of_ble_eq_true rfl)) dX0_heightIsReached_13 ⟨Nat.zero_le _, Nat.zero_le _⟩) hS (fun q _ h9 => hFc q h9) hFc (fun r2 u4 t H3 locs ht hvm hw hB hz1 hk1 hS => ?_)
    obtain ⟨hP, hK, hD⟩ := af_W hB ht hvm hFc
    clear hFc hB
    obtain ⟨er2, eu4, br2⟩ := hw
    rw [eu4] at hP hD
    refine lv_if_ne (tgt := 21) hx hb dX0_heightIsReached_16 (by decide) (fun c5 => ?_) (fun c5 => ?_)
    · refine lv_aload_n hx hb dX0_heightIsReached_21 rfl (lv_at hl 0 rfl) ?_
      refine lv_iconst (v := 1) hx hb dX0_heightIsReached_22 (by decide) ?_
      refine lv_iconst (v := 4) hx hb dX0_heightIsReached_23 (by decide) ?_
      refine lv_iconst (v := 1) hx hb dX0_heightIsReached_24 (by decide) ?_
      have hFc := va_free (wc := wX cI cZ h u) hD hS hA [0, 1, 2, 3, 4, 5] rfl
      refine va_callv (va_runV (As := [.int 1, .int 4, .int 1]) (rest := []) ⟨hx, hb, hml, hown, hts⟩ (kX0_change l D cI cZ h H3.size u 1 4 1 hI bz1) (cwV 3 hts gX0_heightIsReached_X0_change rfl rfl rfl (by decide +kernel) ⟨Nat.le_of_ble_eq_true rfl, Nat.le_of_ble_eq_true rfl⟩) ⟨bl_W, va_recv hK hP (ci := 0) (q0 := 0) rfl rfl, pr_W hP hK hD⟩ rfl rfl hl.1 rfl (lv_room (Nat.le_of_ble_eq_true rfl)) dX0_heightIsReached_25 ⟨Nat.zero_le _, Nat.zero_le _⟩) hS (fun q _ h9 => hFc q h9) hFc (fun u8 t H7 locs ht hvm hw hB hz1 hk1 hS => ?_)
      obtain ⟨hP, hK, hD⟩ := af_W hB ht hvm hFc
      clear hFc hB
      obtain ⟨eu8, hIu8⟩ := hw
      refine lv_iconst (v := 1) hx hb dX0_heightIsReached_28 (by decide) ?_
      have hq1 : pX0_heightIsReached u = (1, u8) := (by subst eu8; subst er2; unfold pX0_heightIsReached; first | (rw [if_pos c1, if_neg c5]; done) | (rw [if_pos c1, if_neg c5]; rfl))
      exact W.zret (v := 1) hx hb hr (bz_n bz1) (fun t ht hW => ⟨⟨1, u8, rfl, ⟨hq1.symm, hIu8, bz1⟩, by rw [ht]; exact hP, va_K.moved hW.alike hK, hD⟩, hS.F ht⟩) hS.2.2 dX0_heightIsReached_29
    · refine lv_iconst (v := 0) hx hb dX0_heightIsReached_19 (by decide) ?_
      have hq1 : pX0_heightIsReached u = (0, u) := (by subst er2; unfold pX0_heightIsReached; first | (rw [if_pos c1, if_pos c5]; done) | (rw [if_pos c1, if_pos c5]; rfl))
      exact W.zret (v := 0) hx hb hr (bz_n bz0) (fun t ht hW => ⟨⟨0, u, rfl, ⟨hq1.symm, hI, bz0⟩, by rw [ht]; exact hP, va_K.moved hW.alike hK, hD⟩, hS.F ht⟩) hS.2.2 dX0_heightIsReached_20
def pX0_heightIsLost (u : XS) : Int32 × XS := if (xA u (Int32.toNatClampNeg 1)) = 5 then (if (pX0_isHeightWithin u 400) = 0 then ((1, pX0_change u 1 1 1)) else ((0, u))) else ((0, u))
set_option maxHeartbeats 4000000 in
set_option maxRecDepth 100000 in
theorem kX0_heightIsLost (l : Launch) (D : va_G) (cI cZ : ClassId) (h : Nat → Nat) (sz : Nat) (u : XS) (hI : InvX u) : Mi l yX0_heightIsLost wsX0_heightIsLost { frames := 2, cells := 0, slots := 0, locals := 45 } D (tyl cI cZ) (wX cI cZ h) sz u [.ref (h 0)] (fun r u9 => (r, u9) = pX0_heightIsLost u ∧ InvX u9 ∧ bz r) := by
  refine Met.ofW (cc := cX0_heightIsLost) (maxL := 1) (ret := (some .boolean)) (by decide) rfl ?_
  intro p e s m args below meth c s₁ B hml hv
  obtain ⟨rfl, hsz, hP, hK, hD0⟩ := hv
  have hx := B.exec
  have hb := B.bytes
  have hr := B.returns
  have hts := atoms_spec (ws := wsX0_heightIsLost) B.pre
  have hin : ∀ w ∈ wsX00, w ∈ wsX0_heightIsLost := fun w h9 => List.mem_cons_of_mem _ (List.mem_append_right _ h9)
  have hown : s.vm.findClass RX0 = some m.cls := findClass_of_methodNamed B.named
  have hlocks := B.notSynchronized
  subst hsz
  have hD : va_D (va_A (wX cI cZ h u) s.heap.size) (wX cI cZ h u) := hD0.self (sz := s.heap.size)
  have hA : ∀ q : Nat, s.heap.size ≤ q → va_A (wX cI cZ h u) s.heap.size q := fun q h9 => Or.inr h9
  have hS : va_S (va_A (wX cI cZ h u) s.heap.size) s.heap s.heap [] := va_S.rf
  have hl := lv_entry ([.ref (h 0)]) (n := 1) (Nat.le_of_ble_eq_true rfl)
  rw [lg_entry_eq]
  generalize (lg_sl ([.ref (h 0)]) ++ List.replicate (1 - (lg_sl ([.ref (h 0)])).length) Slot.unset).toArray = ls at hl ⊢
  have hl : lv_has ls 1 [(0, .ref (h 0))] := hl
  generalize va_A (wX cI cZ h u) s.heap.size = A at hD hA hS ⊢
  refine lv_aload_n hx hb dX0_heightIsLost_0 rfl (lv_at hl 0 rfl) ?_
  refine va_get (D := D) (ci := 0) (v := .ref (h 1)) (C := RX0) (T := TX0) (N := 12) hx hb hts hin hown hK hP 0 rfl rfl 0 (by decide) (hts (.fieldLink RX0 7 "ModeDesk" "active" "[I") (by decide +kernel)) (fun _ h9 => h9) rfl dX0_heightIsLost_1 ?_
  refine lv_iconst (v := 1) hx hb dX0_heightIsLost_4 (by decide) ?_
  refine va_iald hx hb hK hP 1 0 rfl rfl (vi_c (by decide)) dX0_heightIsLost_5 ?_
  refine lv_iconst (v := 5) hx hb dX0_heightIsLost_6 (by decide) ?_
  refine lv_icmp_ne (tgt := 20) hx hb dX0_heightIsLost_7 (by decide) (fun c1 => ?_) (fun c1 => ?_)
  · refine lv_iconst (v := 0) hx hb dX0_heightIsLost_20 (by decide) ?_
    have hq1 : pX0_heightIsLost u = (0, u) := (by unfold pX0_heightIsLost; first | (rw [if_neg c1]; done) | (rw [if_neg c1]; rfl))
    exact W.zret (v := 0) hx hb hr (bz_n bz0) (fun t ht hW => ⟨⟨0, u, rfl, ⟨hq1.symm, hI, bz0⟩, by rw [ht]; exact hP, va_K.moved hW.alike hK, hD⟩, hS.F ht⟩) hS.2.2 dX0_heightIsLost_21
  · refine lv_aload_n hx hb dX0_heightIsLost_10 rfl (lv_at hl 0 rfl) ?_
    refine lv_sipush (v := 400) hx hb dX0_heightIsLost_11 (by decide) ?_
    have hFc := va_free (wc := wX cI cZ h u) hD hS hA [0, 1, 2, 3, 4, 5] rfl
    refine va_calli (va_runV (As := [.int 400]) (rest := []) ⟨hx, hb, hml, hown, hts⟩ (kX0_isHeightWithin l D cI cZ h s.heap.size u 400 hI) (cwV 1 hts gX0_heightIsLost_X0_isHeightWithin rfl rfl rfl (by decide +kernel) ⟨Nat.le_of_ble_eq_true rfl, Nat.le_of_ble_eq_true rfl⟩) ⟨bl_W, va_recv hK hP (ci := 0) (q0 := 0) rfl rfl, pr_W hP hK hD⟩ rfl rfl hl.1 rfl (lv_room (Nat.le_of_ble_eq_true rfl)) dX0_heightIsLost_14 ⟨Nat.zero_le _, Nat.zero_le _⟩) hS (fun q _ h9 => hFc q h9) hFc (fun r2 u4 t H3 locs ht hvm hw hB hz1 hk1 hS => ?_)
    obtain ⟨hP, hK, hD⟩ := af_W hB ht hvm hFc
    clear hFc hB
    obtain ⟨er2, eu4, br2⟩ := hw
    rw [eu4] at hP hD
    refine lv_if_eq (tgt := 22) hx hb dX0_heightIsLost_17 (by decide) (fun c5 => ?_) (fun c5 => ?_)
    · refine lv_aload_n hx hb dX0_heightIsLost_22 rfl (lv_at hl 0 rfl) ?_
      refine lv_iconst (v := 1) hx hb dX0_heightIsLost_23 (by decide) ?_
      refine lv_iconst (v := 1) hx hb dX0_heightIsLost_24 (by decide) ?_
      refine lv_iconst (v := 1) hx hb dX0_heightIsLost_25 (by decide) ?_
      have hFc := va_free (wc := wX cI cZ h u) hD hS hA [0, 1, 2, 3, 4, 5] rfl
      refine va_callv (va_runV (As := [.int 1, .int 1, .int 1]) (rest := []) ⟨hx, hb, hml, hown, hts⟩ (kX0_change l D cI cZ h H3.size u 1 1 1 hI bz1) (cwV 3 hts gX0_heightIsLost_X0_change rfl rfl rfl (by decide +kernel) ⟨Nat.le_of_ble_eq_true rfl, Nat.le_of_ble_eq_true rfl⟩) ⟨bl_W, va_recv hK hP (ci := 0) (q0 := 0) rfl rfl, pr_W hP hK hD⟩ rfl rfl hl.1 rfl (lv_room (Nat.le_of_ble_eq_true rfl)) dX0_heightIsLost_26 ⟨Nat.zero_le _, Nat.zero_le _⟩) hS (fun q _ h9 => hFc q h9) hFc (fun u8 t H7 locs ht hvm hw hB hz1 hk1 hS => ?_)
      obtain ⟨hP, hK, hD⟩ := af_W hB ht hvm hFc
      clear hFc hB
      obtain ⟨eu8, hIu8⟩ := hw
      refine lv_iconst (v := 1) hx hb dX0_heightIsLost_29 (by decide) ?_
      have hq1 : pX0_heightIsLost u = (1, u8) := (by subst eu8; subst er2; unfold pX0_heightIsLost; first | (rw [if_pos c1, if_pos c5]; done) | (rw [if_pos c1, if_pos c5]; rfl))
      exact W.zret (v := 1) hx hb hr (bz_n bz1) (fun t ht hW => ⟨⟨1, u8, rfl, ⟨hq1.symm, hIu8, bz1⟩, by rw [ht]; exact hP, va_K.moved hW.alike hK, hD⟩, hS.F ht⟩) hS.2.2 dX0_heightIsLost_30
    · refine lv_iconst (v := 0) hx hb dX0_heightIsLost_20 (by decide) ?_
      have hq1 : pX0_heightIsLost u = (0, u) := (by subst er2; unfold pX0_heightIsLost; first | (rw [if_pos c1, if_neg c5]; done) | (rw [if_pos c1, if_neg c5]; rfl))
      exact W.zret (v := 0) hx hb hr (bz_n bz0) (fun t ht hW => ⟨⟨0, u, rfl, ⟨hq1.symm, hI, bz0⟩, by rw [ht]; exact hP, va_K.moved hW.alike hK, hD⟩, hS.F ht⟩) hS.2.2 dX0_heightIsLost_21
def pX0_climbIsTooFast (u : XS) : Int32 × XS := if (xA u (Int32.toNatClampNeg 1)) = 2 then (if (pX0_isTooFast u) = 0 then ((0, u)) else ((1, pX0_change u 1 3 1))) else ((0, u))
set_option maxHeartbeats 4000000 in
set_option maxRecDepth 100000 in
theorem kX0_climbIsTooFast (l : Launch) (D : va_G) (cI cZ : ClassId) (h : Nat → Nat) (sz : Nat) (u : XS) (hI : InvX u) : Mi l yX0_climbIsTooFast wsX0_climbIsTooFast { frames := 2, cells := 0, slots := 0, locals := 45 } D (tyl cI cZ) (wX cI cZ h) sz u [.ref (h 0)] (fun r u9 => (r, u9) = pX0_climbIsTooFast u ∧ InvX u9 ∧ bz r) := by
  refine Met.ofW (cc := cX0_climbIsTooFast) (maxL := 1) (ret := (some .boolean)) (by decide) rfl ?_
  intro p e s m args below meth c s₁ B hml hv
  obtain ⟨rfl, hsz, hP, hK, hD0⟩ := hv
  have hx := B.exec
  have hb := B.bytes
  have hr := B.returns
  have hts := atoms_spec (ws := wsX0_climbIsTooFast) B.pre
  have hin : ∀ w ∈ wsX00, w ∈ wsX0_climbIsTooFast := fun w h9 => List.mem_cons_of_mem _ (List.mem_append_right _ h9)
  have hown : s.vm.findClass RX0 = some m.cls := findClass_of_methodNamed B.named
  have hlocks := B.notSynchronized
  subst hsz
  have hD : va_D (va_A (wX cI cZ h u) s.heap.size) (wX cI cZ h u) := hD0.self (sz := s.heap.size)
  have hA : ∀ q : Nat, s.heap.size ≤ q → va_A (wX cI cZ h u) s.heap.size q := fun q h9 => Or.inr h9
  have hS : va_S (va_A (wX cI cZ h u) s.heap.size) s.heap s.heap [] := va_S.rf
  have hl := lv_entry ([.ref (h 0)]) (n := 1) (Nat.le_of_ble_eq_true rfl)
  rw [lg_entry_eq]
  generalize (lg_sl ([.ref (h 0)]) ++ List.replicate (1 - (lg_sl ([.ref (h 0)])).length) Slot.unset).toArray = ls at hl ⊢
  have hl : lv_has ls 1 [(0, .ref (h 0))] := hl
  generalize va_A (wX cI cZ h u) s.heap.size = A at hD hA hS ⊢
  refine lv_aload_n hx hb dX0_climbIsTooFast_0 rfl (lv_at hl 0 rfl) ?_
  refine va_get (D := D) (ci := 0) (v := .ref (h 1)) (C := RX0) (T := TX0) (N := 12) hx hb hts hin hown hK hP 0 rfl rfl 0 (by decide) (hts (.fieldLink RX0 7 "ModeDesk" "active" "[I") (by decide +kernel)) (fun _ h9 => h9) rfl dX0_climbIsTooFast_1 ?_
  refine lv_iconst (v := 1) hx hb dX0_climbIsTooFast_4 (by decide) ?_
  refine va_iald hx hb hK hP 1 0 rfl rfl (vi_c (by decide)) dX0_climbIsTooFast_5 ?_
  refine lv_iconst (v := 2) hx hb dX0_climbIsTooFast_6 (by decide) ?_
  refine lv_icmp_ne (tgt := 17) hx hb dX0_climbIsTooFast_7 (by decide) (fun c1 => ?_) (fun c1 => ?_)
  · refine lv_iconst (v := 0) hx hb dX0_climbIsTooFast_17 (by decide) ?_
    have hq1 : pX0_climbIsTooFast u = (0, u) := (by unfold pX0_climbIsTooFast; first | (rw [if_neg c1]; done) | (rw [if_neg c1]; rfl))
    exact W.zret (v := 0) hx hb hr (bz_n bz0) (fun t ht hW => ⟨⟨0, u, rfl, ⟨hq1.symm, hI, bz0⟩, by rw [ht]; exact hP, va_K.moved hW.alike hK, hD⟩, hS.F ht⟩) hS.2.2 dX0_climbIsTooFast_18
  · refine lv_aload_n hx hb dX0_climbIsTooFast_10 rfl (lv_at hl 0 rfl) ?_
    have hFc := va_free (wc := wX cI cZ h u) hD hS hA [0, 1, 2, 3, 4, 5] rfl
    refine va_calli (va_runV (As := []) (rest := []) ⟨hx, hb, hml, hown, hts⟩ (kX0_isTooFast l D cI cZ h s.heap.size u  hI) (cwV 0 hts gX0_climbIsTooFast_X0_isTooFast rfl rfl rfl (by decide +kernel) ⟨Nat.le_of_ble_eq_true rfl, Nat.le_of_ble_eq_true rfl⟩) ⟨bl_W, va_recv hK hP (ci := 0) (q0 := 0) rfl rfl, pr_W hP hK hD⟩ rfl rfl hl.1 rfl (lv_room (Nat.le_of_ble_eq_true rfl)) dX0_climbIsTooFast_11 ⟨Nat.zero_le _, Nat.zero_le _⟩) hS (fun q _ h9 => hFc q h9) hFc (fun r2 u4 t H3 locs ht hvm hw hB hz1 hk1 hS => ?_)
    obtain ⟨hP, hK, hD⟩ := af_W hB ht hvm hFc
    clear hFc hB
    obtain ⟨er2, eu4, br2⟩ := hw
    rw [eu4] at hP hD
    refine lv_if_ne (tgt := 19) hx hb dX0_climbIsTooFast_14 (by decide) (fun c5 => ?_) (fun c5 => ?_)
    · refine lv_aload_n hx hb dX0_climbIsTooFast_19 rfl (lv_at hl 0 rfl) ?_
      refine lv_iconst (v := 1) hx hb dX0_climbIsTooFast_20 (by decide) ?_
      refine lv_iconst (v := 3) hx hb dX0_climbIsTooFast_21 (by decide) ?_
      refine lv_iconst (v := 1) hx hb dX0_climbIsTooFast_22 (by decide) ?_
      have hFc := va_free (wc := wX cI cZ h u) hD hS hA [0, 1, 2, 3, 4, 5] rfl
      refine va_callv (va_runV (As := [.int 1, .int 3, .int 1]) (rest := []) ⟨hx, hb, hml, hown, hts⟩ (kX0_change l D cI cZ h H3.size u 1 3 1 hI bz1) (cwV 3 hts gX0_climbIsTooFast_X0_change rfl rfl rfl (by decide +kernel) ⟨Nat.le_of_ble_eq_true rfl, Nat.le_of_ble_eq_true rfl⟩) ⟨bl_W, va_recv hK hP (ci := 0) (q0 := 0) rfl rfl, pr_W hP hK hD⟩ rfl rfl hl.1 rfl (lv_room (Nat.le_of_ble_eq_true rfl)) dX0_climbIsTooFast_23 ⟨Nat.zero_le _, Nat.zero_le _⟩) hS (fun q _ h9 => hFc q h9) hFc (fun u8 t H7 locs ht hvm hw hB hz1 hk1 hS => ?_)
      obtain ⟨hP, hK, hD⟩ := af_W hB ht hvm hFc
      clear hFc hB
      obtain ⟨eu8, hIu8⟩ := hw
      refine lv_iconst (v := 1) hx hb dX0_climbIsTooFast_26 (by decide) ?_
      have hq1 : pX0_climbIsTooFast u = (1, u8) := (by subst eu8; subst er2; unfold pX0_climbIsTooFast; first | (rw [if_pos c1, if_neg c5]; done) | (rw [if_pos c1, if_neg c5]; rfl))
      exact W.zret (v := 1) hx hb hr (bz_n bz1) (fun t ht hW => ⟨⟨1, u8, rfl, ⟨hq1.symm, hIu8, bz1⟩, by rw [ht]; exact hP, va_K.moved hW.alike hK, hD⟩, hS.F ht⟩) hS.2.2 dX0_climbIsTooFast_27
    · refine lv_iconst (v := 0) hx hb dX0_climbIsTooFast_17 (by decide) ?_
      have hq1 : pX0_climbIsTooFast u = (0, u) := (by subst er2; unfold pX0_climbIsTooFast; first | (rw [if_pos c1, if_pos c5]; done) | (rw [if_pos c1, if_pos c5]; rfl))
      exact W.zret (v := 0) hx hb hr (bz_n bz0) (fun t ht hW => ⟨⟨0, u, rfl, ⟨hq1.symm, hI, bz0⟩, by rw [ht]; exact hP, va_K.moved hW.alike hK, hD⟩, hS.F ht⟩) hS.2.2 dX0_climbIsTooFast_18
def pX0_comesAboutByItself (u : XS) : Int32 × XS := if (pX0_leaderFails u).1 = 0 then (if (pX0_courseIsLost ((pX0_leaderFails u).2)).1 = 0 then (if (pX0_pathIsLost ((pX0_courseIsLost ((pX0_leaderFails u).2)).2)).1 = 0 then (if (pX0_navIsReached ((pX0_pathIsLost ((pX0_courseIsLost ((pX0_leaderFails u).2)).2)).2)).1 = 0 then (if (pX0_approachIsReached ((pX0_navIsReached ((pX0_pathIsLost ((pX0_courseIsLost ((pX0_leaderFails u).2)).2)).2)).2)).1 = 0 then (if (pX0_glideIsReached ((pX0_approachIsReached ((pX0_navIsReached ((pX0_pathIsLost ((pX0_courseIsLost ((pX0_leaderFails u).2)).2)).2)).2)).2)).1 = 0 then (if (pX0_heightComesNear ((pX0_glideIsReached ((pX0_approachIsReached ((pX0_navIsReached ((pX0_pathIsLost ((pX0_courseIsLost ((pX0_leaderFails u).2)).2)).2)).2)).2)).2)).1 = 0 then (if (pX0_heightIsReached ((pX0_heightComesNear ((pX0_glideIsReached ((pX0_approachIsReached ((pX0_navIsReached ((pX0_pathIsLost ((pX0_courseIsLost ((pX0_leaderFails u).2)).2)).2)).2)).2)).2)).2)).1 = 0 then (if (pX0_heightIsLost ((pX0_heightIsReached ((pX0_heightComesNear ((pX0_glideIsReached ((pX0_approachIsReached ((pX0_navIsReached ((pX0_pathIsLost ((pX0_courseIsLost ((pX0_leaderFails u).2)).2)).2)).2)).2)).2)).2)).2)).1 = 0 then (if (pX0_climbIsTooFast ((pX0_heightIsLost ((pX0_heightIsReached ((pX0_heightComesNear ((pX0_glideIsReached ((pX0_approachIsReached ((pX0_navIsReached ((pX0_pathIsLost ((pX0_courseIsLost ((pX0_leaderFails u).2)).2)).2)).2)).2)).2)).2)).2)).2)).1 = 0 then ((0, (pX0_climbIsTooFast ((pX0_heightIsLost ((pX0_heightIsReached ((pX0_heightComesNear ((pX0_glideIsReached ((pX0_approachIsReached ((pX0_navIsReached ((pX0_pathIsLost ((pX0_courseIsLost ((pX0_leaderFails u).2)).2)).2)).2)).2)).2)).2)).2)).2)).2)) else ((1, (pX0_climbIsTooFast ((pX0_heightIsLost ((pX0_heightIsReached ((pX0_heightComesNear ((pX0_glideIsReached ((pX0_approachIsReached ((pX0_navIsReached ((pX0_pathIsLost ((pX0_courseIsLost ((pX0_leaderFails u).2)).2)).2)).2)).2)).2)).2)).2)).2)).2))) else ((1, (pX0_heightIsLost ((pX0_heightIsReached ((pX0_heightComesNear ((pX0_glideIsReached ((pX0_approachIsReached ((pX0_navIsReached ((pX0_pathIsLost ((pX0_courseIsLost ((pX0_leaderFails u).2)).2)).2)).2)).2)).2)).2)).2)).2))) else ((1, (pX0_heightIsReached ((pX0_heightComesNear ((pX0_glideIsReached ((pX0_approachIsReached ((pX0_navIsReached ((pX0_pathIsLost ((pX0_courseIsLost ((pX0_leaderFails u).2)).2)).2)).2)).2)).2)).2)).2))) else ((1, (pX0_heightComesNear ((pX0_glideIsReached ((pX0_approachIsReached ((pX0_navIsReached ((pX0_pathIsLost ((pX0_courseIsLost ((pX0_leaderFails u).2)).2)).2)).2)).2)).2)).2))) else ((1, (pX0_glideIsReached ((pX0_approachIsReached ((pX0_navIsReached ((pX0_pathIsLost ((pX0_courseIsLost ((pX0_leaderFails u).2)).2)).2)).2)).2)).2))) else ((1, (pX0_approachIsReached ((pX0_navIsReached ((pX0_pathIsLost ((pX0_courseIsLost ((pX0_leaderFails u).2)).2)).2)).2)).2))) else ((1, (pX0_navIsReached ((pX0_pathIsLost ((pX0_courseIsLost ((pX0_leaderFails u).2)).2)).2)).2))) else ((1, (pX0_pathIsLost ((pX0_courseIsLost ((pX0_leaderFails u).2)).2)).2))) else ((1, (pX0_courseIsLost ((pX0_leaderFails u).2)).2))) else ((1, (pX0_leaderFails u).2))
set_option maxHeartbeats 4000000 in
set_option maxRecDepth 100000 in
theorem kX0_comesAboutByItself (l : Launch) (D : va_G) (cI cZ : ClassId) (h : Nat → Nat) (sz : Nat) (u : XS) (hI : InvX u) : Mi l yX0_comesAboutByItself wsX0_comesAboutByItself { frames := 4, cells := 0, slots := 0, locals := 88 } D (tyl cI cZ) (wX cI cZ h) sz u [.ref (h 0)] (fun r u9 => (r, u9) = pX0_comesAboutByItself u ∧ InvX u9 ∧ bz r) := by
  refine Met.ofW (cc := cX0_comesAboutByItself) (maxL := 1) (ret := (some .boolean)) (by decide) rfl ?_
  intro p e s m args below meth c s₁ B hml hv
  obtain ⟨rfl, hsz, hP, hK, hD0⟩ := hv
  have hx := B.exec
  have hb := B.bytes
  have hr := B.returns
  have hts := atoms_spec (ws := wsX0_comesAboutByItself) B.pre
  have hin : ∀ w ∈ wsX00, w ∈ wsX0_comesAboutByItself := fun w h9 => List.mem_cons_of_mem _ (List.mem_append_right _ h9)
  have hown : s.vm.findClass RX0 = some m.cls := findClass_of_methodNamed B.named
  have hlocks := B.notSynchronized
  subst hsz
  have hD : va_D (va_A (wX cI cZ h u) s.heap.size) (wX cI cZ h u) := hD0.self (sz := s.heap.size)
  have hA : ∀ q : Nat, s.heap.size ≤ q → va_A (wX cI cZ h u) s.heap.size q := fun q h9 => Or.inr h9
  have hS : va_S (va_A (wX cI cZ h u) s.heap.size) s.heap s.heap [] := va_S.rf
  have hl := lv_entry ([.ref (h 0)]) (n := 1) (Nat.le_of_ble_eq_true rfl)
  rw [lg_entry_eq]
  generalize (lg_sl ([.ref (h 0)]) ++ List.replicate (1 - (lg_sl ([.ref (h 0)])).length) Slot.unset).toArray = ls at hl ⊢
  have hl : lv_has ls 1 [(0, .ref (h 0))] := hl
  generalize va_A (wX cI cZ h u) s.heap.size = A at hD hA hS ⊢
  refine lv_aload_n hx hb dX0_comesAboutByItself_0 rfl (lv_at hl 0 rfl) ?_
  have hFc := va_free (wc := wX cI cZ h u) hD hS hA [0, 1, 2, 3, 4, 5] rfl
  refine va_calli (va_runV (As := []) (rest := []) ⟨hx, hb, hml, hown, hts⟩ (kX0_leaderFails l D cI cZ h s.heap.size u  hI) (cwV 0 hts gX0_comesAboutByItself_X0_leaderFails rfl rfl rfl (by decide +kernel) ⟨Nat.le_of_ble_eq_true rfl, Nat.le_of_ble_eq_true rfl⟩) ⟨bl_W, va_recv hK hP (ci := 0) (q0 := 0) rfl rfl, pr_W hP hK hD⟩ rfl rfl hl.1 rfl (lv_room (Nat.le_of_ble_eq_true rfl)) dX0_comesAboutByItself_1 ⟨Nat.zero_le _, Nat.zero_le _⟩) hS (fun q _ h9 => hFc q h9) hFc (fun r1 u3 t H2 locs ht hvm hw hB hz1 hk1 hS => ?_)
  obtain ⟨hP, hK, hD⟩ := af_W hB ht hvm hFc
  clear hFc hB
  obtain ⟨e9, hIu3, br1⟩ := hw
  have er1 : r1 = (pX0_leaderFails u).1 := congrArg Prod.fst e9
  have eu3 : u3 = (pX0_leaderFails u).2 := congrArg Prod.snd e9
  clear e9
  refine lv_if_ne (tgt := 70) hx hb dX0_comesAboutByItself_4 (by decide) (fun c4 => ?_) (fun c4 => ?_)
  · refine lv_iconst (v := 1) hx hb dX0_comesAboutByItself_70 (by decide) ?_
    refine lv_goto (tgt := 75) hx hb dX0_comesAboutByItself_71 (by decide) ?_
    have hq1 : pX0_comesAboutByItself u = (1, u3) := (by subst eu3; subst er1; unfold pX0_comesAboutByItself; first | (rw [if_neg c4]; done) | (rw [if_neg c4]; rfl))
    exact W.zret (v := 1) hx hb hr (bz_n bz1) (fun t ht hW => ⟨⟨1, u3, rfl, ⟨hq1.symm, hIu3, bz1⟩, by rw [ht]; exact hP, va_K.moved hW.alike hK, hD⟩, hS.F ht⟩) hS.2.2 dX0_comesAboutByItself_75
  · refine lv_aload_n hx hb dX0_comesAboutByItself_7 rfl (lv_at hl 0 rfl) ?_
    have hFc := va_free (wc := wX cI cZ h u3) hD hS hA [0, 1, 2, 3, 4, 5] rfl
    refine va_calli (va_runV (As := []) (rest := []) ⟨hx, hb, hml, hown, hts⟩ (kX0_courseIsLost l D cI cZ h H2.size u3  hIu3) (cwV 0 hts gX0_comesAboutByItself_X0_courseIsLost rfl rfl rfl (by decide +kernel) ⟨Nat.le_of_ble_eq_true rfl, Nat.le_of_ble_eq_true rfl⟩) ⟨bl_W, va_recv hK hP (ci := 0) (q0 := 0) rfl rfl, pr_W hP hK hD⟩ rfl rfl hl.1 rfl (lv_room (Nat.le_of_ble_eq_true rfl)) dX0_comesAboutByItself_8 ⟨Nat.zero_le _, Nat.zero_le _⟩) hS (fun q _ h9 => hFc q h9) hFc (fun r5 u7 t H6 locs ht hvm hw hB hz1 hk1 hS => ?_)
    obtain ⟨hP, hK, hD⟩ := af_W hB ht hvm hFc
    clear hFc hB
    obtain ⟨e9, hIu7, br5⟩ := hw
    have er5 : r5 = (pX0_courseIsLost u3).1 := congrArg Prod.fst e9
    have eu7 : u7 = (pX0_courseIsLost u3).2 := congrArg Prod.snd e9
    clear e9
    refine lv_if_ne (tgt := 70) hx hb dX0_comesAboutByItself_11 (by decide) (fun c8 => ?_) (fun c8 => ?_)
    · refine lv_iconst (v := 1) hx hb dX0_comesAboutByItself_70 (by decide) ?_
      refine lv_goto (tgt := 75) hx hb dX0_comesAboutByItself_71 (by decide) ?_
      have hq1 : pX0_comesAboutByItself u = (1, u7) := (by subst eu7; subst er5; subst eu3; subst er1; unfold pX0_comesAboutByItself; first | (rw [if_pos c4, if_neg c8]; done) | (rw [if_pos c4, if_neg c8]; rfl))
      exact W.zret (v := 1) hx hb hr (bz_n bz1) (fun t ht hW => ⟨⟨1, u7, rfl, ⟨hq1.symm, hIu7, bz1⟩, by rw [ht]; exact hP, va_K.moved hW.alike hK, hD⟩, hS.F ht⟩) hS.2.2 dX0_comesAboutByItself_75
    · refine lv_aload_n hx hb dX0_comesAboutByItself_14 rfl (lv_at hl 0 rfl) ?_
      have hFc := va_free (wc := wX cI cZ h u7) hD hS hA [0, 1, 2, 3, 4, 5] rfl
      refine va_calli (va_runV (As := []) (rest := []) ⟨hx, hb, hml, hown, hts⟩ (kX0_pathIsLost l D cI cZ h H6.size u7  hIu7) (cwV 0 hts gX0_comesAboutByItself_X0_pathIsLost rfl rfl rfl (by decide +kernel) ⟨Nat.le_of_ble_eq_true rfl, Nat.le_of_ble_eq_true rfl⟩) ⟨bl_W, va_recv hK hP (ci := 0) (q0 := 0) rfl rfl, pr_W hP hK hD⟩ rfl rfl hl.1 rfl (lv_room (Nat.le_of_ble_eq_true rfl)) dX0_comesAboutByItself_15 ⟨Nat.zero_le _, Nat.zero_le _⟩) hS (fun q _ h9 => hFc q h9) hFc (fun r9 u11 t H10 locs ht hvm hw hB hz1 hk1 hS => ?_)
      obtain ⟨hP, hK, hD⟩ := af_W hB ht hvm hFc
      clear hFc hB
      obtain ⟨e9, hIu11, br9⟩ := hw
      have er9 : r9 = (pX0_pathIsLost u7).1 := congrArg Prod.fst e9
      have eu11 : u11 = (pX0_pathIsLost u7).2 := congrArg Prod.snd e9
      clear e9
      refine lv_if_ne (tgt := 70) hx hb dX0_comesAboutByItself_18 (by decide) (fun c12 => ?_) (fun c12 => ?_)
      · refine lv_iconst (v := 1) hx hb dX0_comesAboutByItself_70 (by decide) ?_
        refine lv_goto (tgt := 75) hx hb dX0_comesAboutByItself_71 (by decide) ?_
        have hq1 : pX0_comesAboutByItself u = (1, u11) := (by subst eu11; subst er9; subst eu7; subst er5; subst eu3; subst er1; unfold pX0_comesAboutByItself; first | (rw [if_pos c4, if_pos c8, if_neg c12]; done) | (rw [if_pos c4, if_pos c8, if_neg c12]; rfl))
        exact W.zret (v := 1) hx hb hr (bz_n bz1) (fun t ht hW => ⟨⟨1, u11, rfl, ⟨hq1.symm, hIu11, bz1⟩, by rw [ht]; exact hP, va_K.moved hW.alike hK, hD⟩, hS.F ht⟩) hS.2.2 dX0_comesAboutByItself_75
      · refine lv_aload_n hx hb dX0_comesAboutByItself_21 rfl (lv_at hl 0 rfl) ?_
        have hFc := va_free (wc := wX cI cZ h u11) hD hS hA [0, 1, 2, 3, 4, 5] rfl
        refine va_calli (va_runV (As := []) (rest := []) ⟨hx, hb, hml, hown, hts⟩ (kX0_navIsReached l D cI cZ h H10.size u11  hIu11) (cwV 0 hts gX0_comesAboutByItself_X0_navIsReached rfl rfl rfl (by decide +kernel) ⟨Nat.le_of_ble_eq_true rfl, Nat.le_of_ble_eq_true rfl⟩) ⟨bl_W, va_recv hK hP (ci := 0) (q0 := 0) rfl rfl, pr_W hP hK hD⟩ rfl rfl hl.1 rfl (lv_room (Nat.le_of_ble_eq_true rfl)) dX0_comesAboutByItself_22 ⟨Nat.zero_le _, Nat.zero_le _⟩) hS (fun q _ h9 => hFc q h9) hFc (fun r13 u15 t H14 locs ht hvm hw hB hz1 hk1 hS => ?_)
        obtain ⟨hP, hK, hD⟩ := af_W hB ht hvm hFc
        clear hFc hB
        obtain ⟨e9, hIu15, br13⟩ := hw
        have er13 : r13 = (pX0_navIsReached u11).1 := congrArg Prod.fst e9
        have eu15 : u15 = (pX0_navIsReached u11).2 := congrArg Prod.snd e9
        clear e9
        refine lv_if_ne (tgt := 70) hx hb dX0_comesAboutByItself_25 (by decide) (fun c16 => ?_) (fun c16 => ?_)
        · refine lv_iconst (v := 1) hx hb dX0_comesAboutByItself_70 (by decide) ?_
          refine lv_goto (tgt := 75) hx hb dX0_comesAboutByItself_71 (by decide) ?_
          have hq1 : pX0_comesAboutByItself u = (1, u15) := (by subst eu15; subst er13; subst eu11; subst er9; subst eu7; subst er5; subst eu3; subst er1; unfold pX0_comesAboutByItself; first | (rw [if_pos c4, if_pos c8, if_pos c12, if_neg c16]; done) | (rw [if_pos c4, if_pos c8, if_pos c12, if_neg c16]; rfl))
          exact W.zret (v := 1) hx hb hr (bz_n bz1) (fun t ht hW => ⟨⟨1, u15, rfl, ⟨hq1.symm, hIu15, bz1⟩, by rw [ht]; exact hP, va_K.moved hW.alike hK, hD⟩, hS.F ht⟩) hS.2.2 dX0_comesAboutByItself_75
        · refine lv_aload_n hx hb dX0_comesAboutByItself_28 rfl (lv_at hl 0 rfl) ?_
          have hFc := va_free (wc := wX cI cZ h u15) hD hS hA [0, 1, 2, 3, 4, 5] rfl
          refine va_calli (va_runV (As := []) (rest := []) ⟨hx, hb, hml, hown, hts⟩ (kX0_approachIsReached l D cI cZ h H14.size u15  hIu15) (cwV 0 hts gX0_comesAboutByItself_X0_approachIsReached rfl rfl rfl (by decide +kernel) ⟨Nat.le_of_ble_eq_true rfl, Nat.le_of_ble_eq_true rfl⟩) ⟨bl_W, va_recv hK hP (ci := 0) (q0 := 0) rfl rfl, pr_W hP hK hD⟩ rfl rfl hl.1 rfl (lv_room (Nat.le_of_ble_eq_true rfl)) dX0_comesAboutByItself_29 ⟨Nat.zero_le _, Nat.zero_le _⟩) hS (fun q _ h9 => hFc q h9) hFc (fun r17 u19 t H18 locs ht hvm hw hB hz1 hk1 hS => ?_)
          obtain ⟨hP, hK, hD⟩ := af_W hB ht hvm hFc
          clear hFc hB
          obtain ⟨e9, hIu19, br17⟩ := hw
          have er17 : r17 = (pX0_approachIsReached u15).1 := congrArg Prod.fst e9
          have eu19 : u19 = (pX0_approachIsReached u15).2 := congrArg Prod.snd e9
          clear e9
          refine lv_if_ne (tgt := 70) hx hb dX0_comesAboutByItself_32 (by decide) (fun c20 => ?_) (fun c20 => ?_)
          · refine lv_iconst (v := 1) hx hb dX0_comesAboutByItself_70 (by decide) ?_
            refine lv_goto (tgt := 75) hx hb dX0_comesAboutByItself_71 (by decide) ?_
            have hq1 : pX0_comesAboutByItself u = (1, u19) := (by subst eu19; subst er17; subst eu15; subst er13; subst eu11; subst er9; subst eu7; subst er5; subst eu3; subst er1; unfold pX0_comesAboutByItself; first | (rw [if_pos c4, if_pos c8, if_pos c12, if_pos c16, if_neg c20]; done) | (rw [if_pos c4, if_pos c8, if_pos c12, if_pos c16, if_neg c20]; rfl))
            exact W.zret (v := 1) hx hb hr (bz_n bz1) (fun t ht hW => ⟨⟨1, u19, rfl, ⟨hq1.symm, hIu19, bz1⟩, by rw [ht]; exact hP, va_K.moved hW.alike hK, hD⟩, hS.F ht⟩) hS.2.2 dX0_comesAboutByItself_75
          · refine lv_aload_n hx hb dX0_comesAboutByItself_35 rfl (lv_at hl 0 rfl) ?_
            have hFc := va_free (wc := wX cI cZ h u19) hD hS hA [0, 1, 2, 3, 4, 5] rfl
            refine va_calli (va_runV (As := []) (rest := []) ⟨hx, hb, hml, hown, hts⟩ (kX0_glideIsReached l D cI cZ h H18.size u19  hIu19) (cwV 0 hts gX0_comesAboutByItself_X0_glideIsReached rfl rfl rfl (by decide +kernel) ⟨Nat.le_of_ble_eq_true rfl, Nat.le_of_ble_eq_true rfl⟩) ⟨bl_W, va_recv hK hP (ci := 0) (q0 := 0) rfl rfl, pr_W hP hK hD⟩ rfl rfl hl.1 rfl (lv_room (Nat.le_of_ble_eq_true rfl)) dX0_comesAboutByItself_36 ⟨Nat.zero_le _, Nat.zero_le _⟩) hS (fun q _ h9 => hFc q h9) hFc (fun r21 u23 t H22 locs ht hvm hw hB hz1 hk1 hS => ?_)
            obtain ⟨hP, hK, hD⟩ := af_W hB ht hvm hFc
            clear hFc hB
            obtain ⟨e9, hIu23, br21⟩ := hw
            have er21 : r21 = (pX0_glideIsReached u19).1 := congrArg Prod.fst e9
            have eu23 : u23 = (pX0_glideIsReached u19).2 := congrArg Prod.snd e9
            clear e9
            refine lv_if_ne (tgt := 70) hx hb dX0_comesAboutByItself_39 (by decide) (fun c24 => ?_) (fun c24 => ?_)
            · refine lv_iconst (v := 1) hx hb dX0_comesAboutByItself_70 (by decide) ?_
              refine lv_goto (tgt := 75) hx hb dX0_comesAboutByItself_71 (by decide) ?_
              have hq1 : pX0_comesAboutByItself u = (1, u23) := (by subst eu23; subst er21; subst eu19; subst er17; subst eu15; subst er13; subst eu11; subst er9; subst eu7; subst er5; subst eu3; subst er1; unfold pX0_comesAboutByItself; first | (rw [if_pos c4, if_pos c8, if_pos c12, if_pos c16, if_pos c20, if_neg c24]; done) | (rw [if_pos c4, if_pos c8, if_pos c12, if_pos c16, if_pos c20, if_neg c24]; rfl))
              exact W.zret (v := 1) hx hb hr (bz_n bz1) (fun t ht hW => ⟨⟨1, u23, rfl, ⟨hq1.symm, hIu23, bz1⟩, by rw [ht]; exact hP, va_K.moved hW.alike hK, hD⟩, hS.F ht⟩) hS.2.2 dX0_comesAboutByItself_75
            · refine lv_aload_n hx hb dX0_comesAboutByItself_42 rfl (lv_at hl 0 rfl) ?_
              have hFc := va_free (wc := wX cI cZ h u23) hD hS hA [0, 1, 2, 3, 4, 5] rfl
              refine va_calli (va_runV (As := []) (rest := []) ⟨hx, hb, hml, hown, hts⟩ (kX0_heightComesNear l D cI cZ h H22.size u23  hIu23) (cwV 0 hts gX0_comesAboutByItself_X0_heightComesNear rfl rfl rfl (by decide +kernel) ⟨Nat.le_of_ble_eq_true rfl, Nat.le_of_ble_eq_true rfl⟩) ⟨bl_W, va_recv hK hP (ci := 0) (q0 := 0) rfl rfl, pr_W hP hK hD⟩ rfl rfl hl.1 rfl (lv_room (Nat.le_of_ble_eq_true rfl)) dX0_comesAboutByItself_43 ⟨Nat.zero_le _, Nat.zero_le _⟩) hS (fun q _ h9 => hFc q h9) hFc (fun r25 u27 t H26 locs ht hvm hw hB hz1 hk1 hS => ?_)
              obtain ⟨hP, hK, hD⟩ := af_W hB ht hvm hFc
              clear hFc hB
              obtain ⟨e9, hIu27, br25⟩ := hw
              have er25 : r25 = (pX0_heightComesNear u23).1 := congrArg Prod.fst e9
              have eu27 : u27 = (pX0_heightComesNear u23).2 := congrArg Prod.snd e9
              clear e9
              refine lv_if_ne (tgt := 70) hx hb dX0_comesAboutByItself_46 (by decide) (fun c28 => ?_) (fun c28 => ?_)
              · refine lv_iconst (v := 1) hx hb dX0_comesAboutByItself_70 (by decide) ?_
                refine lv_goto (tgt := 75) hx hb dX0_comesAboutByItself_71 (by decide) ?_
                have hq1 : pX0_comesAboutByItself u = (1, u27) := (by subst eu27; subst er25; subst eu23; subst er21; subst eu19; subst er17; subst eu15; subst er13; subst eu11; subst er9; subst eu7; subst er5; subst eu3; subst er1; unfold pX0_comesAboutByItself; first | (rw [if_pos c4, if_pos c8, if_pos c12, if_pos c16, if_pos c20, if_pos c24, if_neg c28]; done) | (rw [if_pos c4, if_pos c8, if_pos c12, if_pos c16, if_pos c20, if_pos c24, if_neg c28]; rfl))
                exact W.zret (v := 1) hx hb hr (bz_n bz1) (fun t ht hW => ⟨⟨1, u27, rfl, ⟨hq1.symm, hIu27, bz1⟩, by rw [ht]; exact hP, va_K.moved hW.alike hK, hD⟩, hS.F ht⟩) hS.2.2 dX0_comesAboutByItself_75
              · refine lv_aload_n hx hb dX0_comesAboutByItself_49 rfl (lv_at hl 0 rfl) ?_
                have hFc := va_free (wc := wX cI cZ h u27) hD hS hA [0, 1, 2, 3, 4, 5] rfl
                refine va_calli (va_runV (As := []) (rest := []) ⟨hx, hb, hml, hown, hts⟩ (kX0_heightIsReached l D cI cZ h H26.size u27  hIu27) (cwV 0 hts gX0_comesAboutByItself_X0_heightIsReached rfl rfl rfl (by decide +kernel) ⟨Nat.le_of_ble_eq_true rfl, Nat.le_of_ble_eq_true rfl⟩) ⟨bl_W, va_recv hK hP (ci := 0) (q0 := 0) rfl rfl, pr_W hP hK hD⟩ rfl rfl hl.1 rfl (lv_room (Nat.le_of_ble_eq_true rfl)) dX0_comesAboutByItself_50 ⟨Nat.zero_le _, Nat.zero_le _⟩) hS (fun q _ h9 => hFc q h9) hFc (fun r29 u31 t H30 locs ht hvm hw hB hz1 hk1 hS => ?_)
                obtain ⟨hP, hK, hD⟩ := af_W hB ht hvm hFc
                clear hFc hB
                obtain ⟨e9, hIu31, br29⟩ := hw
                have er29 : r29 = (pX0_heightIsReached u27).1 := congrArg Prod.fst e9
                have eu31 : u31 = (pX0_heightIsReached u27).2 := congrArg Prod.snd e9
                clear e9
                refine lv_if_ne (tgt := 70) hx hb dX0_comesAboutByItself_53 (by decide) (fun c32 => ?_) (fun c32 => ?_)
                · refine lv_iconst (v := 1) hx hb dX0_comesAboutByItself_70 (by decide) ?_
                  refine lv_goto (tgt := 75) hx hb dX0_comesAboutByItself_71 (by decide) ?_
                  have hq1 : pX0_comesAboutByItself u = (1, u31) := (by subst eu31; subst er29; subst eu27; subst er25; subst eu23; subst er21; subst eu19; subst er17; subst eu15; subst er13; subst eu11; subst er9; subst eu7; subst er5; subst eu3; subst er1; unfold pX0_comesAboutByItself; first | (rw [if_pos c4, if_pos c8, if_pos c12, if_pos c16, if_pos c20, if_pos c24, if_pos c28, if_neg c32]; done) | (rw [if_pos c4, if_pos c8, if_pos c12, if_pos c16, if_pos c20, if_pos c24, if_pos c28, if_neg c32]; rfl))
                  exact W.zret (v := 1) hx hb hr (bz_n bz1) (fun t ht hW => ⟨⟨1, u31, rfl, ⟨hq1.symm, hIu31, bz1⟩, by rw [ht]; exact hP, va_K.moved hW.alike hK, hD⟩, hS.F ht⟩) hS.2.2 dX0_comesAboutByItself_75
                · refine lv_aload_n hx hb dX0_comesAboutByItself_56 rfl (lv_at hl 0 rfl) ?_
                  have hFc := va_free (wc := wX cI cZ h u31) hD hS hA [0, 1, 2, 3, 4, 5] rfl
                  refine va_calli (va_runV (As := []) (rest := []) ⟨hx, hb, hml, hown, hts⟩ (kX0_heightIsLost l D cI cZ h H30.size u31  hIu31) (cwV 0 hts gX0_comesAboutByItself_X0_heightIsLost rfl rfl rfl (by decide +kernel) ⟨Nat.le_of_ble_eq_true rfl, Nat.le_of_ble_eq_true rfl⟩) ⟨bl_W, va_recv hK hP (ci := 0) (q0 := 0) rfl rfl, pr_W hP hK hD⟩ rfl rfl hl.1 rfl (lv_room (Nat.le_of_ble_eq_true rfl)) dX0_comesAboutByItself_57 ⟨Nat.zero_le _, Nat.zero_le _⟩) hS (fun q _ h9 => hFc q h9) hFc (fun r33 u35 t H34 locs ht hvm hw hB hz1 hk1 hS => ?_)
                  obtain ⟨hP, hK, hD⟩ := af_W hB ht hvm hFc
                  clear hFc hB
                  obtain ⟨e9, hIu35, br33⟩ := hw
                  have er33 : r33 = (pX0_heightIsLost u31).1 := congrArg Prod.fst e9
                  have eu35 : u35 = (pX0_heightIsLost u31).2 := congrArg Prod.snd e9
                  clear e9
                  refine lv_if_ne (tgt := 70) hx hb dX0_comesAboutByItself_60 (by decide) (fun c36 => ?_) (fun c36 => ?_)
                  · refine lv_iconst (v := 1) hx hb dX0_comesAboutByItself_70 (by decide) ?_
                    refine lv_goto (tgt := 75) hx hb dX0_comesAboutByItself_71 (by decide) ?_
                    have hq1 : pX0_comesAboutByItself u = (1, u35) := (by subst eu35; subst er33; subst eu31; subst er29; subst eu27; subst er25; subst eu23; subst er21; subst eu19; subst er17; subst eu15; subst er13; subst eu11; subst er9; subst eu7; subst er5; subst eu3; subst er1; unfold pX0_comesAboutByItself; first | (rw [if_pos c4, if_pos c8, if_pos c12, if_pos c16, if_pos c20, if_pos c24, if_pos c28, if_pos c32, if_neg c36]; done) | (rw [if_pos c4, if_pos c8, if_pos c12, if_pos c16, if_pos c20, if_pos c24, if_pos c28, if_pos c32, if_neg c36]; rfl))
                    exact W.zret (v := 1) hx hb hr (bz_n bz1) (fun t ht hW => ⟨⟨1, u35, rfl, ⟨hq1.symm, hIu35, bz1⟩, by rw [ht]; exact hP, va_K.moved hW.alike hK, hD⟩, hS.F ht⟩) hS.2.2 dX0_comesAboutByItself_75
                  · refine lv_aload_n hx hb dX0_comesAboutByItself_63 rfl (lv_at hl 0 rfl) ?_
                    have hFc := va_free (wc := wX cI cZ h u35) hD hS hA [0, 1, 2, 3, 4, 5] rfl
                    refine va_calli (va_runV (As := []) (rest := []) ⟨hx, hb, hml, hown, hts⟩ (kX0_climbIsTooFast l D cI cZ h H34.size u35  hIu35) (cwV 0 hts gX0_comesAboutByItself_X0_climbIsTooFast rfl rfl rfl (by decide +kernel) ⟨Nat.le_of_ble_eq_true rfl, Nat.le_of_ble_eq_true rfl⟩) ⟨bl_W, va_recv hK hP (ci := 0) (q0 := 0) rfl rfl, pr_W hP hK hD⟩ rfl rfl hl.1 rfl (lv_room (Nat.le_of_ble_eq_true rfl)) dX0_comesAboutByItself_64 ⟨Nat.zero_le _, Nat.zero_le _⟩) hS (fun q _ h9 => hFc q h9) hFc (fun r37 u39 t H38 locs ht hvm hw hB hz1 hk1 hS => ?_)
                    obtain ⟨hP, hK, hD⟩ := af_W hB ht hvm hFc
                    clear hFc hB
                    obtain ⟨e9, hIu39, br37⟩ := hw
                    have er37 : r37 = (pX0_climbIsTooFast u35).1 := congrArg Prod.fst e9
                    have eu39 : u39 = (pX0_climbIsTooFast u35).2 := congrArg Prod.snd e9
                    clear e9
                    refine lv_if_eq (tgt := 74) hx hb dX0_comesAboutByItself_67 (by decide) (fun c40 => ?_) (fun c40 => ?_)
                    · refine lv_iconst (v := 0) hx hb dX0_comesAboutByItself_74 (by decide) ?_
                      have hq1 : pX0_comesAboutByItself u = (0, u39) := (by subst eu39; subst er37; subst eu35; subst er33; subst eu31; subst er29; subst eu27; subst er25; subst eu23; subst er21; subst eu19; subst er17; subst eu15; subst er13; subst eu11; subst er9; subst eu7; subst er5; subst eu3; subst er1; unfold pX0_comesAboutByItself; first | (rw [if_pos c4, if_pos c8, if_pos c12, if_pos c16, if_pos c20, if_pos c24, if_pos c28, if_pos c32, if_pos c36, if_pos c40]; done) | (rw [if_pos c4, if_pos c8, if_pos c12, if_pos c16, if_pos c20, if_pos c24, if_pos c28, if_pos c32, if_pos c36, if_pos c40]; rfl))
                      exact W.zret (v := 0) hx hb hr (bz_n bz0) (fun t ht hW => ⟨⟨0, u39, rfl, ⟨hq1.symm, hIu39, bz0⟩, by rw [ht]; exact hP, va_K.moved hW.alike hK, hD⟩, hS.F ht⟩) hS.2.2 dX0_comesAboutByItself_75
                    · refine lv_iconst (v := 1) hx hb dX0_comesAboutByItself_70 (by decide) ?_
                      refine lv_goto (tgt := 75) hx hb dX0_comesAboutByItself_71 (by decide) ?_
                      have hq1 : pX0_comesAboutByItself u = (1, u39) := (by subst eu39; subst er37; subst eu35; subst er33; subst eu31; subst er29; subst eu27; subst er25; subst eu23; subst er21; subst eu19; subst er17; subst eu15; subst er13; subst eu11; subst er9; subst eu7; subst er5; subst eu3; subst er1; unfold pX0_comesAboutByItself; first | (rw [if_pos c4, if_pos c8, if_pos c12, if_pos c16, if_pos c20, if_pos c24, if_pos c28, if_pos c32, if_pos c36, if_neg c40]; done) | (rw [if_pos c4, if_pos c8, if_pos c12, if_pos c16, if_pos c20, if_pos c24, if_pos c28, if_pos c32, if_pos c36, if_neg c40]; rfl))
                      exact W.zret (v := 1) hx hb hr (bz_n bz1) (fun t ht hW => ⟨⟨1, u39, rfl, ⟨hq1.symm, hIu39, bz1⟩, by rw [ht]; exact hP, va_K.moved hW.alike hK, hD⟩, hS.F ht⟩) hS.2.2 dX0_comesAboutByItself_75
def pX0_obey (u : XS) (a1 : Int32) : XS := if 7 < a1 then (if a1 = 0 then (pX0_obeyHeading u) else (if a1 = 1 then (pX0_obeyNav u) else (if a1 = 2 then (pX0_obeyApproach u) else (if a1 = 3 then (pX0_obeyVertical u 2) else (if a1 = 4 then (pX0_obeyVertical u 3) else (if a1 = 5 then (pX0_obeyVertical u 4) else (if a1 = 6 then (pX0_obeyAround u) else (if a1 = 7 then (pX0_obeySync u) else (if a1 = 8 then (pX0_obeyTransfer u) else (pX0_obeyDirector u)))))))))) else (if (pX0_isAnyChannelSound u) = 0 then (u) else (if a1 = 0 then (pX0_obeyHeading (pX0_turnOnIfOff u)) else (if a1 = 1 then (pX0_obeyNav (pX0_turnOnIfOff u)) else (if a1 = 2 then (pX0_obeyApproach (pX0_turnOnIfOff u)) else (if a1 = 3 then (pX0_obeyVertical (pX0_turnOnIfOff u) 2) else (if a1 = 4 then (pX0_obeyVertical (pX0_turnOnIfOff u) 3) else (if a1 = 5 then (pX0_obeyVertical (pX0_turnOnIfOff u) 4) else (if a1 = 6 then (pX0_obeyAround (pX0_turnOnIfOff u)) else (if a1 = 7 then (pX0_obeySync (pX0_turnOnIfOff u)) else (if a1 = 8 then (pX0_obeyTransfer (pX0_turnOnIfOff u)) else (pX0_obeyDirector (pX0_turnOnIfOff u))))))))))))
set_option maxHeartbeats 4000000 in
set_option maxRecDepth 100000 in
theorem kX0_obey (l : Launch) (D : va_G) (cI cZ : ClassId) (h : Nat → Nat) (sz : Nat) (u : XS) (a1 : Int32) (hI : InvX u) : Mv l yX0_obey wsX0_obey { frames := 4, cells := 0, slots := 0, locals := 87 } D (tyl cI cZ) (wX cI cZ h) sz u [.ref (h 0), .int a1] (fun u9 => u9 = pX0_obey u a1 ∧ InvX u9) := by
  refine Met.ofW (cc := cX0_obey) (maxL := 2) (ret := none) (by decide) rfl ?_
  intro p e s m args below meth c s₁ B hml hv
  obtain ⟨rfl, hsz, hP, hK, hD0⟩ := hv
  have hx := B.exec
  have hb := B.bytes
  have hr := B.returns
  have hts := atoms_spec (ws := wsX0_obey) B.pre
  have hin : ∀ w ∈ wsX00, w ∈ wsX0_obey := fun w h9 => List.mem_cons_of_mem _ (List.mem_append_right _ h9)
  have hown : s.vm.findClass RX0 = some m.cls := findClass_of_methodNamed B.named
  have hlocks := B.notSynchronized
  subst hsz
  have hD : va_D (va_A (wX cI cZ h u) s.heap.size) (wX cI cZ h u) := hD0.self (sz := s.heap.size)
  have hA : ∀ q : Nat, s.heap.size ≤ q → va_A (wX cI cZ h u) s.heap.size q := fun q h9 => Or.inr h9
  have hS : va_S (va_A (wX cI cZ h u) s.heap.size) s.heap s.heap [] := va_S.rf
  have hl := lv_entry ([.ref (h 0), .int a1]) (n := 2) (Nat.le_of_ble_eq_true rfl)
  rw [lg_entry_eq]
  generalize (lg_sl ([.ref (h 0), .int a1]) ++ List.replicate (2 - (lg_sl ([.ref (h 0), .int a1])).length) Slot.unset).toArray = ls at hl ⊢
  have hl : lv_has ls 2 [(0, .ref (h 0)), (1, .int a1)] := hl
  generalize va_A (wX cI cZ h u) s.heap.size = A at hD hA hS ⊢
  refine lv_iload_n hx hb dX0_obey_0 rfl (lv_at hl 1 rfl) ?_
  refine lv_bipush (v := 7) hx hb dX0_obey_1 (by decide) ?_
  refine lv_icmp_gt (tgt := 18) hx hb dX0_obey_3 (by decide) (fun c1 => ?_) (fun c1 => ?_)
  · refine lv_iload_n hx hb dX0_obey_18 rfl (lv_at hl 1 rfl) ?_
    by_cases c2 : a1 = 0
    · refine lv_tableIn (off := 49) (tgt := 68) hx hb dX0_obey_19 (by rw [c2]; decide) (by rw [c2]; decide) (by rw [c2]; rfl) (by decide) ?_
      refine lv_aload_n hx hb dX0_obey_68 rfl (lv_at hl 0 rfl) ?_
      have hFc := va_free (wc := wX cI cZ h u) hD hS hA [0, 1, 2, 3, 4, 5] rfl
      refine va_callv (va_runV (As := []) (rest := []) ⟨hx, hb, hml, hown, hts⟩ (kX0_obeyHeading l D cI cZ h s.heap.size u  hI) (cwV 0 hts gX0_obey_X0_obeyHeading rfl rfl rfl (by decide +kernel) ⟨Nat.le_of_ble_eq_true rfl, Nat.le_of_ble_eq_true rfl⟩) ⟨bl_W, va_recv hK hP (ci := 0) (q0 := 0) rfl rfl, pr_W hP hK hD⟩ rfl rfl hl.1 rfl (lv_room (Nat.le_of_ble_eq_true rfl)) dX0_obey_69 ⟨Nat.zero_le _, Nat.zero_le _⟩) hS (fun q _ h9 => hFc q h9) hFc (fun u5 t H4 locs ht hvm hw hB hz1 hk1 hS => ?_)
      obtain ⟨hP, hK, hD⟩ := af_W hB ht hvm hFc
      clear hFc hB
      obtain ⟨eu5, hIu5⟩ := hw
      refine lv_goto (tgt := 138) hx hb dX0_obey_72 (by decide) ?_
      have hq1 : pX0_obey u a1 = u5 := (by subst eu5; unfold pX0_obey; first | (rw [if_pos c1, if_pos c2]; done) | (rw [if_pos c1, if_pos c2]; rfl))
      exact W.vret hx hb hr (fun t ht hW => ⟨⟨u5, rfl, ⟨hq1.symm, hIu5⟩, by rw [ht]; exact hP, va_K.moved hW.alike hK, hD⟩, hS.F ht⟩) hS.2.2 dX0_obey_138
    · by_cases c6 : a1 = 1
      · refine lv_tableIn (off := 56) (tgt := 75) hx hb dX0_obey_19 (by rw [c6]; decide) (by rw [c6]; decide) (by rw [c6]; rfl) (by decide) ?_
        refine lv_aload_n hx hb dX0_obey_75 rfl (lv_at hl 0 rfl) ?_
        have hFc := va_free (wc := wX cI cZ h u) hD hS hA [0, 1, 2, 3, 4, 5] rfl
        refine va_callv (va_runV (As := []) (rest := []) ⟨hx, hb, hml, hown, hts⟩ (kX0_obeyNav l D cI cZ h s.heap.size u  hI) (cwV 0 hts gX0_obey_X0_obeyNav rfl rfl rfl (by decide +kernel) ⟨Nat.le_of_ble_eq_true rfl, Nat.le_of_ble_eq_true rfl⟩) ⟨bl_W, va_recv hK hP (ci := 0) (q0 := 0) rfl rfl, pr_W hP hK hD⟩ rfl rfl hl.1 rfl (lv_room (Nat.le_of_ble_eq_true rfl)) dX0_obey_76 ⟨Nat.zero_le _, Nat.zero_le _⟩) hS (fun q _ h9 => hFc q h9) hFc (fun u9 t H8 locs ht hvm hw hB hz1 hk1 hS => ?_)
        obtain ⟨hP, hK, hD⟩ := af_W hB ht hvm hFc
        clear hFc hB
        obtain ⟨eu9, hIu9⟩ := hw
        refine lv_goto (tgt := 138) hx hb dX0_obey_79 (by decide) ?_
        have hq1 : pX0_obey u a1 = u9 := (by subst eu9; unfold pX0_obey; first | (rw [if_pos c1, if_neg c2, if_pos c6]; done) | (rw [if_pos c1, if_neg c2, if_pos c6]; rfl))
        exact W.vret hx hb hr (fun t ht hW => ⟨⟨u9, rfl, ⟨hq1.symm, hIu9⟩, by rw [ht]; exact hP, va_K.moved hW.alike hK, hD⟩, hS.F ht⟩) hS.2.2 dX0_obey_138
      · by_cases c10 : a1 = 2
        · refine lv_tableIn (off := 63) (tgt := 82) hx hb dX0_obey_19 (by rw [c10]; decide) (by rw [c10]; decide) (by rw [c10]; rfl) (by decide) ?_
          refine lv_aload_n hx hb dX0_obey_82 rfl (lv_at hl 0 rfl) ?_
          have hFc := va_free (wc := wX cI cZ h u) hD hS hA [0, 1, 2, 3, 4, 5] rfl
          refine va_callv (va_runV (As := []) (rest := []) ⟨hx, hb, hml, hown, hts⟩ (kX0_obeyApproach l D cI cZ h s.heap.size u  hI) (cwV 0 hts gX0_obey_X0_obeyApproach rfl rfl rfl (by decide +kernel) ⟨Nat.le_of_ble_eq_true rfl, Nat.le_of_ble_eq_true rfl⟩) ⟨bl_W, va_recv hK hP (ci := 0) (q0 := 0) rfl rfl, pr_W hP hK hD⟩ rfl rfl hl.1 rfl (lv_room (Nat.le_of_ble_eq_true rfl)) dX0_obey_83 ⟨Nat.zero_le _, Nat.zero_le _⟩) hS (fun q _ h9 => hFc q h9) hFc (fun u13 t H12 locs ht hvm hw hB hz1 hk1 hS => ?_)
          obtain ⟨hP, hK, hD⟩ := af_W hB ht hvm hFc
          clear hFc hB
          obtain ⟨eu13, hIu13⟩ := hw
          refine lv_goto (tgt := 138) hx hb dX0_obey_86 (by decide) ?_
          have hq1 : pX0_obey u a1 = u13 := (by subst eu13; unfold pX0_obey; first | (rw [if_pos c1, if_neg c2, if_neg c6, if_pos c10]; done) | (rw [if_pos c1, if_neg c2, if_neg c6, if_pos c10]; rfl))
          exact W.vret hx hb hr (fun t ht hW => ⟨⟨u13, rfl, ⟨hq1.symm, hIu13⟩, by rw [ht]; exact hP, va_K.moved hW.alike hK, hD⟩, hS.F ht⟩) hS.2.2 dX0_obey_138
        · by_cases c14 : a1 = 3
          · refine lv_tableIn (off := 70) (tgt := 89) hx hb dX0_obey_19 (by rw [c14]; decide) (by rw [c14]; decide) (by rw [c14]; rfl) (by decide) ?_
            refine lv_aload_n hx hb dX0_obey_89 rfl (lv_at hl 0 rfl) ?_
            refine lv_iconst (v := 2) hx hb dX0_obey_90 (by decide) ?_
            have hFc := va_free (wc := wX cI cZ h u) hD hS hA [0, 1, 2, 3, 4, 5] rfl
            refine va_callv (va_runV (As := [.int 2]) (rest := []) ⟨hx, hb, hml, hown, hts⟩ (kX0_obeyVertical l D cI cZ h s.heap.size u 2 hI) (cwV 1 hts gX0_obey_X0_obeyVertical rfl rfl rfl (by decide +kernel) ⟨Nat.le_of_ble_eq_true rfl, Nat.le_of_ble_eq_true rfl⟩) ⟨bl_W, va_recv hK hP (ci := 0) (q0 := 0) rfl rfl, pr_W hP hK hD⟩ rfl rfl hl.1 rfl (lv_room (Nat.le_of_ble_eq_true rfl)) dX0_obey_91 ⟨Nat.zero_le _, Nat.zero_le _⟩) hS (fun q _ h9 => hFc q h9) hFc (fun u17 t H16 locs ht hvm hw hB hz1 hk1 hS => ?_)
            obtain ⟨hP, hK, hD⟩ := af_W hB ht hvm hFc
            clear hFc hB
            obtain ⟨eu17, hIu17⟩ := hw
            refine lv_goto (tgt := 138) hx hb dX0_obey_94 (by decide) ?_
            have hq1 : pX0_obey u a1 = u17 := (by subst eu17; unfold pX0_obey; first | (rw [if_pos c1, if_neg c2, if_neg c6, if_neg c10, if_pos c14]; done) | (rw [if_pos c1, if_neg c2, if_neg c6, if_neg c10, if_pos c14]; rfl))
            exact W.vret hx hb hr (fun t ht hW => ⟨⟨u17, rfl, ⟨hq1.symm, hIu17⟩, by rw [ht]; exact hP, va_K.moved hW.alike hK, hD⟩, hS.F ht⟩) hS.2.2 dX0_obey_138
          · by_cases c18 : a1 = 4
            · refine lv_tableIn (off := 78) (tgt := 97) hx hb dX0_obey_19 (by rw [c18]; decide) (by rw [c18]; decide) (by rw [c18]; rfl) (by decide) ?_
              refine lv_aload_n hx hb dX0_obey_97 rfl (lv_at hl 0 rfl) ?_
              refine lv_iconst (v := 3) hx hb dX0_obey_98 (by decide) ?_
              have hFc := va_free (wc := wX cI cZ h u) hD hS hA [0, 1, 2, 3, 4, 5] rfl
              refine va_callv (va_runV (As := [.int 3]) (rest := []) ⟨hx, hb, hml, hown, hts⟩ (kX0_obeyVertical l D cI cZ h s.heap.size u 3 hI) (cwV 1 hts gX0_obey_X0_obeyVertical rfl rfl rfl (by decide +kernel) ⟨Nat.le_of_ble_eq_true rfl, Nat.le_of_ble_eq_true rfl⟩) ⟨bl_W, va_recv hK hP (ci := 0) (q0 := 0) rfl rfl, pr_W hP hK hD⟩ rfl rfl hl.1 rfl (lv_room (Nat.le_of_ble_eq_true rfl)) dX0_obey_99 ⟨Nat.zero_le _, Nat.zero_le _⟩) hS (fun q _ h9 => hFc q h9) hFc (fun u21 t H20 locs ht hvm hw hB hz1 hk1 hS => ?_)
              obtain ⟨hP, hK, hD⟩ := af_W hB ht hvm hFc
              clear hFc hB
              obtain ⟨eu21, hIu21⟩ := hw
              refine lv_goto (tgt := 138) hx hb dX0_obey_102 (by decide) ?_
              have hq1 : pX0_obey u a1 = u21 := (by subst eu21; unfold pX0_obey; first | (rw [if_pos c1, if_neg c2, if_neg c6, if_neg c10, if_neg c14, if_pos c18]; done) | (rw [if_pos c1, if_neg c2, if_neg c6, if_neg c10, if_neg c14, if_pos c18]; rfl))
              exact W.vret hx hb hr (fun t ht hW => ⟨⟨u21, rfl, ⟨hq1.symm, hIu21⟩, by rw [ht]; exact hP, va_K.moved hW.alike hK, hD⟩, hS.F ht⟩) hS.2.2 dX0_obey_138
            · by_cases c22 : a1 = 5
              · refine lv_tableIn (off := 86) (tgt := 105) hx hb dX0_obey_19 (by rw [c22]; decide) (by rw [c22]; decide) (by rw [c22]; rfl) (by decide) ?_
                refine lv_aload_n hx hb dX0_obey_105 rfl (lv_at hl 0 rfl) ?_
                refine lv_iconst (v := 4) hx hb dX0_obey_106 (by decide) ?_
                have hFc := va_free (wc := wX cI cZ h u) hD hS hA [0, 1, 2, 3, 4, 5] rfl
                refine va_callv (va_runV (As := [.int 4]) (rest := []) ⟨hx, hb, hml, hown, hts⟩ (kX0_obeyVertical l D cI cZ h s.heap.size u 4 hI) (cwV 1 hts gX0_obey_X0_obeyVertical rfl rfl rfl (by decide +kernel) ⟨Nat.le_of_ble_eq_true rfl, Nat.le_of_ble_eq_true rfl⟩) ⟨bl_W, va_recv hK hP (ci := 0) (q0 := 0) rfl rfl, pr_W hP hK hD⟩ rfl rfl hl.1 rfl (lv_room (Nat.le_of_ble_eq_true rfl)) dX0_obey_107 ⟨Nat.zero_le _, Nat.zero_le _⟩) hS (fun q _ h9 => hFc q h9) hFc (fun u25 t H24 locs ht hvm hw hB hz1 hk1 hS => ?_)
                obtain ⟨hP, hK, hD⟩ := af_W hB ht hvm hFc
                clear hFc hB
                obtain ⟨eu25, hIu25⟩ := hw
                refine lv_goto (tgt := 138) hx hb dX0_obey_110 (by decide) ?_
                have hq1 : pX0_obey u a1 = u25 := (by subst eu25; unfold pX0_obey; first | (rw [if_pos c1, if_neg c2, if_neg c6, if_neg c10, if_neg c14, if_neg c18, if_pos c22]; done) | (rw [if_pos c1, if_neg c2, if_neg c6, if_neg c10, if_neg c14, if_neg c18, if_pos c22]; rfl))
                exact W.vret hx hb hr (fun t ht hW => ⟨⟨u25, rfl, ⟨hq1.symm, hIu25⟩, by rw [ht]; exact hP, va_K.moved hW.alike hK, hD⟩, hS.F ht⟩) hS.2.2 dX0_obey_138
              · by_cases c26 : a1 = 6
                · refine lv_tableIn (off := 94) (tgt := 113) hx hb dX0_obey_19 (by rw [c26]; decide) (by rw [c26]; decide) (by rw [c26]; rfl) (by decide) ?_
                  refine lv_aload_n hx hb dX0_obey_113 rfl (lv_at hl 0 rfl) ?_
                  have hFc := va_free (wc := wX cI cZ h u) hD hS hA [0, 1, 2, 3, 4, 5] rfl
                  refine va_callv (va_runV (As := []) (rest := []) ⟨hx, hb, hml, hown, hts⟩ (kX0_obeyAround l D cI cZ h s.heap.size u  hI) (cwV 0 hts gX0_obey_X0_obeyAround rfl rfl rfl (by decide +kernel) ⟨Nat.le_of_ble_eq_true rfl, Nat.le_of_ble_eq_true rfl⟩) ⟨bl_W, va_recv hK hP (ci := 0) (q0 := 0) rfl rfl, pr_W hP hK hD⟩ rfl rfl hl.1 rfl (lv_room (Nat.le_of_ble_eq_true rfl)) dX0_obey_114 ⟨Nat.zero_le _, Nat.zero_le _⟩) hS (fun q _ h9 => hFc q h9) hFc (fun u29 t H28 locs ht hvm hw hB hz1 hk1 hS => ?_)
                  obtain ⟨hP, hK, hD⟩ := af_W hB ht hvm hFc
                  clear hFc hB
                  obtain ⟨eu29, hIu29⟩ := hw
                  refine lv_goto (tgt := 138) hx hb dX0_obey_117 (by decide) ?_
                  have hq1 : pX0_obey u a1 = u29 := (by subst eu29; unfold pX0_obey; first | (rw [if_pos c1, if_neg c2, if_neg c6, if_neg c10, if_neg c14, if_neg c18, if_neg c22, if_pos c26]; done) | (rw [if_pos c1, if_neg c2, if_neg c6, if_neg c10, if_neg c14, if_neg c18, if_neg c22, if_pos c26]; rfl))
                  exact W.vret hx hb hr (fun t ht hW => ⟨⟨u29, rfl, ⟨hq1.symm, hIu29⟩, by rw [ht]; exact hP, va_K.moved hW.alike hK, hD⟩, hS.F ht⟩) hS.2.2 dX0_obey_138
                · by_cases c30 : a1 = 7
                  · refine lv_tableIn (off := 101) (tgt := 120) hx hb dX0_obey_19 (by rw [c30]; decide) (by rw [c30]; decide) (by rw [c30]; rfl) (by decide) ?_
                    refine lv_aload_n hx hb dX0_obey_120 rfl (lv_at hl 0 rfl) ?_
                    have hFc := va_free (wc := wX cI cZ h u) hD hS hA [0, 1, 2, 3, 4, 5] rfl
                    refine va_callv (va_runV (As := []) (rest := []) ⟨hx, hb, hml, hown, hts⟩ (kX0_obeySync l D cI cZ h s.heap.size u  hI) (cwV 0 hts gX0_obey_X0_obeySync rfl rfl rfl (by decide +kernel) ⟨Nat.le_of_ble_eq_true rfl, Nat.le_of_ble_eq_true rfl⟩) ⟨bl_W, va_recv hK hP (ci := 0) (q0 := 0) rfl rfl, pr_W hP hK hD⟩ rfl rfl hl.1 rfl (lv_room (Nat.le_of_ble_eq_true rfl)) dX0_obey_121 ⟨Nat.zero_le _, Nat.zero_le _⟩) hS (fun q _ h9 => hFc q h9) hFc (fun u33 t H32 locs ht hvm hw hB hz1 hk1 hS => ?_)
                    obtain ⟨hP, hK, hD⟩ := af_W hB ht hvm hFc
                    clear hFc hB
                    obtain ⟨eu33, hIu33⟩ := hw
                    refine lv_goto (tgt := 138) hx hb dX0_obey_124 (by decide) ?_
                    have hq1 : pX0_obey u a1 = u33 := (by subst eu33; unfold pX0_obey; first | (rw [if_pos c1, if_neg c2, if_neg c6, if_neg c10, if_neg c14, if_neg c18, if_neg c22, if_neg c26, if_pos c30]; done) | (rw [if_pos c1, if_neg c2, if_neg c6, if_neg c10, if_neg c14, if_neg c18, if_neg c22, if_neg c26, if_pos c30]; rfl))
                    exact W.vret hx hb hr (fun t ht hW => ⟨⟨u33, rfl, ⟨hq1.symm, hIu33⟩, by rw [ht]; exact hP, va_K.moved hW.alike hK, hD⟩, hS.F ht⟩) hS.2.2 dX0_obey_138
                  · by_cases c34 : a1 = 8
                    · refine lv_tableIn (off := 108) (tgt := 127) hx hb dX0_obey_19 (by rw [c34]; decide) (by rw [c34]; decide) (by rw [c34]; rfl) (by decide) ?_
                      refine lv_aload_n hx hb dX0_obey_127 rfl (lv_at hl 0 rfl) ?_
                      have hFc := va_free (wc := wX cI cZ h u) hD hS hA [0, 1, 2, 3, 4, 5] rfl
                      refine va_callv (va_runV (As := []) (rest := []) ⟨hx, hb, hml, hown, hts⟩ (kX0_obeyTransfer l D cI cZ h s.heap.size u  hI) (cwV 0 hts gX0_obey_X0_obeyTransfer rfl rfl rfl (by decide +kernel) ⟨Nat.le_of_ble_eq_true rfl, Nat.le_of_ble_eq_true rfl⟩) ⟨bl_W, va_recv hK hP (ci := 0) (q0 := 0) rfl rfl, pr_W hP hK hD⟩ rfl rfl hl.1 rfl (lv_room (Nat.le_of_ble_eq_true rfl)) dX0_obey_128 ⟨Nat.zero_le _, Nat.zero_le _⟩) hS (fun q _ h9 => hFc q h9) hFc (fun u37 t H36 locs ht hvm hw hB hz1 hk1 hS => ?_)
                      obtain ⟨hP, hK, hD⟩ := af_W hB ht hvm hFc
                      clear hFc hB
                      obtain ⟨eu37, hIu37⟩ := hw
                      refine lv_goto (tgt := 138) hx hb dX0_obey_131 (by decide) ?_
                      have hq1 : pX0_obey u a1 = u37 := (by subst eu37; unfold pX0_obey; first | (rw [if_pos c1, if_neg c2, if_neg c6, if_neg c10, if_neg c14, if_neg c18, if_neg c22, if_neg c26, if_neg c30, if_pos c34]; done) | (rw [if_pos c1, if_neg c2, if_neg c6, if_neg c10, if_neg c14, if_neg c18, if_neg c22, if_neg c26, if_neg c30, if_pos c34]; rfl))
                      exact W.vret hx hb hr (fun t ht hW => ⟨⟨u37, rfl, ⟨hq1.symm, hIu37⟩, by rw [ht]; exact hP, va_K.moved hW.alike hK, hD⟩, hS.F ht⟩) hS.2.2 dX0_obey_138
                    · refine lv_tableOut (tgt := 134) hx hb dX0_obey_19 (by have h0 := ti_ne c2 (n := 0) (by decide); have h1 := ti_ne c6 (n := 1) (by decide); have h2 := ti_ne c10 (n := 2) (by decide); have h3 := ti_ne c14 (n := 3) (by decide); have h4 := ti_ne c18 (n := 4) (by decide); have h5 := ti_ne c22 (n := 5) (by decide); have h6 := ti_ne c26 (n := 6) (by decide); have h7 := ti_ne c30 (n := 7) (by decide); have h8 := ti_ne c34 (n := 8) (by decide); omega) (by decide) ?_
                      refine lv_aload_n hx hb dX0_obey_134 rfl (lv_at hl 0 rfl) ?_
                      have hFc := va_free (wc := wX cI cZ h u) hD hS hA [0, 1, 2, 3, 4, 5] rfl
                      refine va_callv (va_runV (As := []) (rest := []) ⟨hx, hb, hml, hown, hts⟩ (kX0_obeyDirector l D cI cZ h s.heap.size u  hI) (cwV 0 hts gX0_obey_X0_obeyDirector rfl rfl rfl (by decide +kernel) ⟨Nat.le_of_ble_eq_true rfl, Nat.le_of_ble_eq_true rfl⟩) ⟨bl_W, va_recv hK hP (ci := 0) (q0 := 0) rfl rfl, pr_W hP hK hD⟩ rfl rfl hl.1 rfl (lv_room (Nat.le_of_ble_eq_true rfl)) dX0_obey_135 ⟨Nat.zero_le _, Nat.zero_le _⟩) hS (fun q _ h9 => hFc q h9) hFc (fun u40 t H39 locs ht hvm hw hB hz1 hk1 hS => ?_)
                      obtain ⟨hP, hK, hD⟩ := af_W hB ht hvm hFc
                      clear hFc hB
                      obtain ⟨eu40, hIu40⟩ := hw
                      have hq1 : pX0_obey u a1 = u40 := (by subst eu40; unfold pX0_obey; first | (rw [if_pos c1, if_neg c2, if_neg c6, if_neg c10, if_neg c14, if_neg c18, if_neg c22, if_neg c26, if_neg c30, if_neg c34]; done) | (rw [if_pos c1, if_neg c2, if_neg c6, if_neg c10, if_neg c14, if_neg c18, if_neg c22, if_neg c26, if_neg c30, if_neg c34]; rfl))
                      exact W.vret hx hb hr (fun t ht hW => ⟨⟨u40, rfl, ⟨hq1.symm, hIu40⟩, by rw [ht]; exact hP, va_K.moved hW.alike hK, hD⟩, hS.F ht⟩) hS.2.2 dX0_obey_138
  · refine lv_aload_n hx hb dX0_obey_6 rfl (lv_at hl 0 rfl) ?_
    have hFc := va_free (wc := wX cI cZ h u) hD hS hA [0, 1, 2, 3, 4, 5] rfl
    refine va_calli (va_runV (As := []) (rest := []) ⟨hx, hb, hml, hown, hts⟩ (kX0_isAnyChannelSound l D cI cZ h s.heap.size u  hI) (cwV 0 hts gX0_obey_X0_isAnyChannelSound rfl rfl rfl (by decide +kernel) ⟨Nat.le_of_ble_eq_true rfl, Nat.le_of_ble_eq_true rfl⟩) ⟨bl_W, va_recv hK hP (ci := 0) (q0 := 0) rfl rfl, pr_W hP hK hD⟩ rfl rfl hl.1 rfl (lv_room (Nat.le_of_ble_eq_true rfl)) dX0_obey_7 ⟨Nat.zero_le _, Nat.zero_le _⟩) hS (fun q _ h9 => hFc q h9) hFc (fun r41 u43 t H42 locs ht hvm hw hB hz1 hk1 hS => ?_)
    obtain ⟨hP, hK, hD⟩ := af_W hB ht hvm hFc
    clear hFc hB
    obtain ⟨er41, eu43, br41⟩ := hw
    rw [eu43] at hP hD
    refine lv_if_ne (tgt := 14) hx hb dX0_obey_10 (by decide) (fun c44 => ?_) (fun c44 => ?_)
    · refine lv_aload_n hx hb dX0_obey_14 rfl (lv_at hl 0 rfl) ?_
      have hFc := va_free (wc := wX cI cZ h u) hD hS hA [0, 1, 2, 3, 4, 5] rfl
      refine va_callv (va_runV (As := []) (rest := []) ⟨hx, hb, hml, hown, hts⟩ (kX0_turnOnIfOff l D cI cZ h H42.size u  hI) (cwV 0 hts gX0_obey_X0_turnOnIfOff rfl rfl rfl (by decide +kernel) ⟨Nat.le_of_ble_eq_true rfl, Nat.le_of_ble_eq_true rfl⟩) ⟨bl_W, va_recv hK hP (ci := 0) (q0 := 0) rfl rfl, pr_W hP hK hD⟩ rfl rfl hl.1 rfl (lv_room (Nat.le_of_ble_eq_true rfl)) dX0_obey_15 ⟨Nat.zero_le _, Nat.zero_le _⟩) hS (fun q _ h9 => hFc q h9) hFc (fun u47 t H46 locs ht hvm hw hB hz1 hk1 hS => ?_)
      obtain ⟨hP, hK, hD⟩ := af_W hB ht hvm hFc
      clear hFc hB
      obtain ⟨eu47, hIu47⟩ := hw
      refine lv_iload_n hx hb dX0_obey_18 rfl (lv_at hl 1 rfl) ?_
      by_cases c48 : a1 = 0
      · refine lv_tableIn (off := 49) (tgt := 68) hx hb dX0_obey_19 (by rw [c48]; decide) (by rw [c48]; decide) (by rw [c48]; rfl) (by decide) ?_
        refine lv_aload_n hx hb dX0_obey_68 rfl (lv_at hl 0 rfl) ?_
        have hFc := va_free (wc := wX cI cZ h u47) hD hS hA [0, 1, 2, 3, 4, 5] rfl
        refine va_callv (va_runV (As := []) (rest := []) ⟨hx, hb, hml, hown, hts⟩ (kX0_obeyHeading l D cI cZ h H46.size u47  hIu47) (cwV 0 hts gX0_obey_X0_obeyHeading rfl rfl rfl (by decide +kernel) ⟨Nat.le_of_ble_eq_true rfl, Nat.le_of_ble_eq_true rfl⟩) ⟨bl_W, va_recv hK hP (ci := 0) (q0 := 0) rfl rfl, pr_W hP hK hD⟩ rfl rfl hl.1 rfl (lv_room (Nat.le_of_ble_eq_true rfl)) dX0_obey_69 ⟨Nat.zero_le _, Nat.zero_le _⟩) hS (fun q _ h9 => hFc q h9) hFc (fun u51 t H50 locs ht hvm hw hB hz1 hk1 hS => ?_)
        obtain ⟨hP, hK, hD⟩ := af_W hB ht hvm hFc
        clear hFc hB
        obtain ⟨eu51, hIu51⟩ := hw
        refine lv_goto (tgt := 138) hx hb dX0_obey_72 (by decide) ?_
        have hq1 : pX0_obey u a1 = u51 := (by subst eu51; subst eu47; subst er41; unfold pX0_obey; first | (rw [if_neg c1, if_neg c44, if_pos c48]; done) | (rw [if_neg c1, if_neg c44, if_pos c48]; rfl))
        exact W.vret hx hb hr (fun t ht hW => ⟨⟨u51, rfl, ⟨hq1.symm, hIu51⟩, by rw [ht]; exact hP, va_K.moved hW.alike hK, hD⟩, hS.F ht⟩) hS.2.2 dX0_obey_138
      · by_cases c52 : a1 = 1
        · refine lv_tableIn (off := 56) (tgt := 75) hx hb dX0_obey_19 (by rw [c52]; decide) (by rw [c52]; decide) (by rw [c52]; rfl) (by decide) ?_
          refine lv_aload_n hx hb dX0_obey_75 rfl (lv_at hl 0 rfl) ?_
          have hFc := va_free (wc := wX cI cZ h u47) hD hS hA [0, 1, 2, 3, 4, 5] rfl
          refine va_callv (va_runV (As := []) (rest := []) ⟨hx, hb, hml, hown, hts⟩ (kX0_obeyNav l D cI cZ h H46.size u47  hIu47) (cwV 0 hts gX0_obey_X0_obeyNav rfl rfl rfl (by decide +kernel) ⟨Nat.le_of_ble_eq_true rfl, Nat.le_of_ble_eq_true rfl⟩) ⟨bl_W, va_recv hK hP (ci := 0) (q0 := 0) rfl rfl, pr_W hP hK hD⟩ rfl rfl hl.1 rfl (lv_room (Nat.le_of_ble_eq_true rfl)) dX0_obey_76 ⟨Nat.zero_le _, Nat.zero_le _⟩) hS (fun q _ h9 => hFc q h9) hFc (fun u55 t H54 locs ht hvm hw hB hz1 hk1 hS => ?_)
          obtain ⟨hP, hK, hD⟩ := af_W hB ht hvm hFc
          clear hFc hB
          obtain ⟨eu55, hIu55⟩ := hw
          refine lv_goto (tgt := 138) hx hb dX0_obey_79 (by decide) ?_
          have hq1 : pX0_obey u a1 = u55 := (by subst eu55; subst eu47; subst er41; unfold pX0_obey; first | (rw [if_neg c1, if_neg c44, if_neg c48, if_pos c52]; done) | (rw [if_neg c1, if_neg c44, if_neg c48, if_pos c52]; rfl))
          exact W.vret hx hb hr (fun t ht hW => ⟨⟨u55, rfl, ⟨hq1.symm, hIu55⟩, by rw [ht]; exact hP, va_K.moved hW.alike hK, hD⟩, hS.F ht⟩) hS.2.2 dX0_obey_138
        · by_cases c56 : a1 = 2
          · refine lv_tableIn (off := 63) (tgt := 82) hx hb dX0_obey_19 (by rw [c56]; decide) (by rw [c56]; decide) (by rw [c56]; rfl) (by decide) ?_
            refine lv_aload_n hx hb dX0_obey_82 rfl (lv_at hl 0 rfl) ?_
            have hFc := va_free (wc := wX cI cZ h u47) hD hS hA [0, 1, 2, 3, 4, 5] rfl
            refine va_callv (va_runV (As := []) (rest := []) ⟨hx, hb, hml, hown, hts⟩ (kX0_obeyApproach l D cI cZ h H46.size u47  hIu47) (cwV 0 hts gX0_obey_X0_obeyApproach rfl rfl rfl (by decide +kernel) ⟨Nat.le_of_ble_eq_true rfl, Nat.le_of_ble_eq_true rfl⟩) ⟨bl_W, va_recv hK hP (ci := 0) (q0 := 0) rfl rfl, pr_W hP hK hD⟩ rfl rfl hl.1 rfl (lv_room (Nat.le_of_ble_eq_true rfl)) dX0_obey_83 ⟨Nat.zero_le _, Nat.zero_le _⟩) hS (fun q _ h9 => hFc q h9) hFc (fun u59 t H58 locs ht hvm hw hB hz1 hk1 hS => ?_)
            obtain ⟨hP, hK, hD⟩ := af_W hB ht hvm hFc
            clear hFc hB
            obtain ⟨eu59, hIu59⟩ := hw
            refine lv_goto (tgt := 138) hx hb dX0_obey_86 (by decide) ?_
            have hq1 : pX0_obey u a1 = u59 := (by subst eu59; subst eu47; subst er41; unfold pX0_obey; first | (rw [if_neg c1, if_neg c44, if_neg c48, if_neg c52, if_pos c56]; done) | (rw [if_neg c1, if_neg c44, if_neg c48, if_neg c52, if_pos c56]; rfl))
            exact W.vret hx hb hr (fun t ht hW => ⟨⟨u59, rfl, ⟨hq1.symm, hIu59⟩, by rw [ht]; exact hP, va_K.moved hW.alike hK, hD⟩, hS.F ht⟩) hS.2.2 dX0_obey_138
          · by_cases c60 : a1 = 3
            · refine lv_tableIn (off := 70) (tgt := 89) hx hb dX0_obey_19 (by rw [c60]; decide) (by rw [c60]; decide) (by rw [c60]; rfl) (by decide) ?_
              refine lv_aload_n hx hb dX0_obey_89 rfl (lv_at hl 0 rfl) ?_
              refine lv_iconst (v := 2) hx hb dX0_obey_90 (by decide) ?_
              have hFc := va_free (wc := wX cI cZ h u47) hD hS hA [0, 1, 2, 3, 4, 5] rfl
              refine va_callv (va_runV (As := [.int 2]) (rest := []) ⟨hx, hb, hml, hown, hts⟩ (kX0_obeyVertical l D cI cZ h H46.size u47 2 hIu47) (cwV 1 hts gX0_obey_X0_obeyVertical rfl rfl rfl (by decide +kernel) ⟨Nat.le_of_ble_eq_true rfl, Nat.le_of_ble_eq_true rfl⟩) ⟨bl_W, va_recv hK hP (ci := 0) (q0 := 0) rfl rfl, pr_W hP hK hD⟩ rfl rfl hl.1 rfl (lv_room (Nat.le_of_ble_eq_true rfl)) dX0_obey_91 ⟨Nat.zero_le _, Nat.zero_le _⟩) hS (fun q _ h9 => hFc q h9) hFc (fun u63 t H62 locs ht hvm hw hB hz1 hk1 hS => ?_)
              obtain ⟨hP, hK, hD⟩ := af_W hB ht hvm hFc
              clear hFc hB
              obtain ⟨eu63, hIu63⟩ := hw
              refine lv_goto (tgt := 138) hx hb dX0_obey_94 (by decide) ?_
              have hq1 : pX0_obey u a1 = u63 := (by subst eu63; subst eu47; subst er41; unfold pX0_obey; first | (rw [if_neg c1, if_neg c44, if_neg c48, if_neg c52, if_neg c56, if_pos c60]; done) | (rw [if_neg c1, if_neg c44, if_neg c48, if_neg c52, if_neg c56, if_pos c60]; rfl))
              exact W.vret hx hb hr (fun t ht hW => ⟨⟨u63, rfl, ⟨hq1.symm, hIu63⟩, by rw [ht]; exact hP, va_K.moved hW.alike hK, hD⟩, hS.F ht⟩) hS.2.2 dX0_obey_138
            · by_cases c64 : a1 = 4
              · refine lv_tableIn (off := 78) (tgt := 97) hx hb dX0_obey_19 (by rw [c64]; decide) (by rw [c64]; decide) (by rw [c64]; rfl) (by decide) ?_
                refine lv_aload_n hx hb dX0_obey_97 rfl (lv_at hl 0 rfl) ?_
                refine lv_iconst (v := 3) hx hb dX0_obey_98 (by decide) ?_
                have hFc := va_free (wc := wX cI cZ h u47) hD hS hA [0, 1, 2, 3, 4, 5] rfl
                refine va_callv (va_runV (As := [.int 3]) (rest := []) ⟨hx, hb, hml, hown, hts⟩ (kX0_obeyVertical l D cI cZ h H46.size u47 3 hIu47) (cwV 1 hts gX0_obey_X0_obeyVertical rfl rfl rfl (by decide +kernel) ⟨Nat.le_of_ble_eq_true rfl, Nat.le_of_ble_eq_true rfl⟩) ⟨bl_W, va_recv hK hP (ci := 0) (q0 := 0) rfl rfl, pr_W hP hK hD⟩ rfl rfl hl.1 rfl (lv_room (Nat.le_of_ble_eq_true rfl)) dX0_obey_99 ⟨Nat.zero_le _, Nat.zero_le _⟩) hS (fun q _ h9 => hFc q h9) hFc (fun u67 t H66 locs ht hvm hw hB hz1 hk1 hS => ?_)
                obtain ⟨hP, hK, hD⟩ := af_W hB ht hvm hFc
                clear hFc hB
                obtain ⟨eu67, hIu67⟩ := hw
                refine lv_goto (tgt := 138) hx hb dX0_obey_102 (by decide) ?_
                have hq1 : pX0_obey u a1 = u67 := (by subst eu67; subst eu47; subst er41; unfold pX0_obey; first | (rw [if_neg c1, if_neg c44, if_neg c48, if_neg c52, if_neg c56, if_neg c60, if_pos c64]; done) | (rw [if_neg c1, if_neg c44, if_neg c48, if_neg c52, if_neg c56, if_neg c60, if_pos c64]; rfl))
                exact W.vret hx hb hr (fun t ht hW => ⟨⟨u67, rfl, ⟨hq1.symm, hIu67⟩, by rw [ht]; exact hP, va_K.moved hW.alike hK, hD⟩, hS.F ht⟩) hS.2.2 dX0_obey_138
              · by_cases c68 : a1 = 5
                · refine lv_tableIn (off := 86) (tgt := 105) hx hb dX0_obey_19 (by rw [c68]; decide) (by rw [c68]; decide) (by rw [c68]; rfl) (by decide) ?_
                  refine lv_aload_n hx hb dX0_obey_105 rfl (lv_at hl 0 rfl) ?_
                  refine lv_iconst (v := 4) hx hb dX0_obey_106 (by decide) ?_
                  have hFc := va_free (wc := wX cI cZ h u47) hD hS hA [0, 1, 2, 3, 4, 5] rfl
                  refine va_callv (va_runV (As := [.int 4]) (rest := []) ⟨hx, hb, hml, hown, hts⟩ (kX0_obeyVertical l D cI cZ h H46.size u47 4 hIu47) (cwV 1 hts gX0_obey_X0_obeyVertical rfl rfl rfl (by decide +kernel) ⟨Nat.le_of_ble_eq_true rfl, Nat.le_of_ble_eq_true rfl⟩) ⟨bl_W, va_recv hK hP (ci := 0) (q0 := 0) rfl rfl, pr_W hP hK hD⟩ rfl rfl hl.1 rfl (lv_room (Nat.le_of_ble_eq_true rfl)) dX0_obey_107 ⟨Nat.zero_le _, Nat.zero_le _⟩) hS (fun q _ h9 => hFc q h9) hFc (fun u71 t H70 locs ht hvm hw hB hz1 hk1 hS => ?_)
                  obtain ⟨hP, hK, hD⟩ := af_W hB ht hvm hFc
                  clear hFc hB
                  obtain ⟨eu71, hIu71⟩ := hw
                  refine lv_goto (tgt := 138) hx hb dX0_obey_110 (by decide) ?_
                  have hq1 : pX0_obey u a1 = u71 := (by subst eu71; subst eu47; subst er41; unfold pX0_obey; first | (rw [if_neg c1, if_neg c44, if_neg c48, if_neg c52, if_neg c56, if_neg c60, if_neg c64, if_pos c68]; done) | (rw [if_neg c1, if_neg c44, if_neg c48, if_neg c52, if_neg c56, if_neg c60, if_neg c64, if_pos c68]; rfl))
                  exact W.vret hx hb hr (fun t ht hW => ⟨⟨u71, rfl, ⟨hq1.symm, hIu71⟩, by rw [ht]; exact hP, va_K.moved hW.alike hK, hD⟩, hS.F ht⟩) hS.2.2 dX0_obey_138
                · by_cases c72 : a1 = 6
                  · refine lv_tableIn (off := 94) (tgt := 113) hx hb dX0_obey_19 (by rw [c72]; decide) (by rw [c72]; decide) (by rw [c72]; rfl) (by decide) ?_
                    refine lv_aload_n hx hb dX0_obey_113 rfl (lv_at hl 0 rfl) ?_
                    have hFc := va_free (wc := wX cI cZ h u47) hD hS hA [0, 1, 2, 3, 4, 5] rfl
                    refine va_callv (va_runV (As := []) (rest := []) ⟨hx, hb, hml, hown, hts⟩ (kX0_obeyAround l D cI cZ h H46.size u47  hIu47) (cwV 0 hts gX0_obey_X0_obeyAround rfl rfl rfl (by decide +kernel) ⟨Nat.le_of_ble_eq_true rfl, Nat.le_of_ble_eq_true rfl⟩) ⟨bl_W, va_recv hK hP (ci := 0) (q0 := 0) rfl rfl, pr_W hP hK hD⟩ rfl rfl hl.1 rfl (lv_room (Nat.le_of_ble_eq_true rfl)) dX0_obey_114 ⟨Nat.zero_le _, Nat.zero_le _⟩) hS (fun q _ h9 => hFc q h9) hFc (fun u75 t H74 locs ht hvm hw hB hz1 hk1 hS => ?_)
                    obtain ⟨hP, hK, hD⟩ := af_W hB ht hvm hFc
                    clear hFc hB
                    obtain ⟨eu75, hIu75⟩ := hw
                    refine lv_goto (tgt := 138) hx hb dX0_obey_117 (by decide) ?_
                    have hq1 : pX0_obey u a1 = u75 := (by subst eu75; subst eu47; subst er41; unfold pX0_obey; first | (rw [if_neg c1, if_neg c44, if_neg c48, if_neg c52, if_neg c56, if_neg c60, if_neg c64, if_neg c68, if_pos c72]; done) | (rw [if_neg c1, if_neg c44, if_neg c48, if_neg c52, if_neg c56, if_neg c60, if_neg c64, if_neg c68, if_pos c72]; rfl))
                    exact W.vret hx hb hr (fun t ht hW => ⟨⟨u75, rfl, ⟨hq1.symm, hIu75⟩, by rw [ht]; exact hP, va_K.moved hW.alike hK, hD⟩, hS.F ht⟩) hS.2.2 dX0_obey_138
                  · by_cases c76 : a1 = 7
                    · refine lv_tableIn (off := 101) (tgt := 120) hx hb dX0_obey_19 (by rw [c76]; decide) (by rw [c76]; decide) (by rw [c76]; rfl) (by decide) ?_
                      refine lv_aload_n hx hb dX0_obey_120 rfl (lv_at hl 0 rfl) ?_
                      have hFc := va_free (wc := wX cI cZ h u47) hD hS hA [0, 1, 2, 3, 4, 5] rfl
                      refine va_callv (va_runV (As := []) (rest := []) ⟨hx, hb, hml, hown, hts⟩ (kX0_obeySync l D cI cZ h H46.size u47  hIu47) (cwV 0 hts gX0_obey_X0_obeySync rfl rfl rfl (by decide +kernel) ⟨Nat.le_of_ble_eq_true rfl, Nat.le_of_ble_eq_true rfl⟩) ⟨bl_W, va_recv hK hP (ci := 0) (q0 := 0) rfl rfl, pr_W hP hK hD⟩ rfl rfl hl.1 rfl (lv_room (Nat.le_of_ble_eq_true rfl)) dX0_obey_121 ⟨Nat.zero_le _, Nat.zero_le _⟩) hS (fun q _ h9 => hFc q h9) hFc (fun u79 t H78 locs ht hvm hw hB hz1 hk1 hS => ?_)
                      obtain ⟨hP, hK, hD⟩ := af_W hB ht hvm hFc
                      clear hFc hB
                      obtain ⟨eu79, hIu79⟩ := hw
                      refine lv_goto (tgt := 138) hx hb dX0_obey_124 (by decide) ?_
                      have hq1 : pX0_obey u a1 = u79 := (by subst eu79; subst eu47; subst er41; unfold pX0_obey; first | (rw [if_neg c1, if_neg c44, if_neg c48, if_neg c52, if_neg c56, if_neg c60, if_neg c64, if_neg c68, if_neg c72, if_pos c76]; done) | (rw [if_neg c1, if_neg c44, if_neg c48, if_neg c52, if_neg c56, if_neg c60, if_neg c64, if_neg c68, if_neg c72, if_pos c76]; rfl))
                      exact W.vret hx hb hr (fun t ht hW => ⟨⟨u79, rfl, ⟨hq1.symm, hIu79⟩, by rw [ht]; exact hP, va_K.moved hW.alike hK, hD⟩, hS.F ht⟩) hS.2.2 dX0_obey_138
                    · by_cases c80 : a1 = 8
                      · refine lv_tableIn (off := 108) (tgt := 127) hx hb dX0_obey_19 (by rw [c80]; decide) (by rw [c80]; decide) (by rw [c80]; rfl) (by decide) ?_
                        refine lv_aload_n hx hb dX0_obey_127 rfl (lv_at hl 0 rfl) ?_
                        have hFc := va_free (wc := wX cI cZ h u47) hD hS hA [0, 1, 2, 3, 4, 5] rfl
                        refine va_callv (va_runV (As := []) (rest := []) ⟨hx, hb, hml, hown, hts⟩ (kX0_obeyTransfer l D cI cZ h H46.size u47  hIu47) (cwV 0 hts gX0_obey_X0_obeyTransfer rfl rfl rfl (by decide +kernel) ⟨Nat.le_of_ble_eq_true rfl, Nat.le_of_ble_eq_true rfl⟩) ⟨bl_W, va_recv hK hP (ci := 0) (q0 := 0) rfl rfl, pr_W hP hK hD⟩ rfl rfl hl.1 rfl (lv_room (Nat.le_of_ble_eq_true rfl)) dX0_obey_128 ⟨Nat.zero_le _, Nat.zero_le _⟩) hS (fun q _ h9 => hFc q h9) hFc (fun u83 t H82 locs ht hvm hw hB hz1 hk1 hS => ?_)
                        obtain ⟨hP, hK, hD⟩ := af_W hB ht hvm hFc
                        clear hFc hB
                        obtain ⟨eu83, hIu83⟩ := hw
                        refine lv_goto (tgt := 138) hx hb dX0_obey_131 (by decide) ?_
                        have hq1 : pX0_obey u a1 = u83 := (by subst eu83; subst eu47; subst er41; unfold pX0_obey; first | (rw [if_neg c1, if_neg c44, if_neg c48, if_neg c52, if_neg c56, if_neg c60, if_neg c64, if_neg c68, if_neg c72, if_neg c76, if_pos c80]; done) | (rw [if_neg c1, if_neg c44, if_neg c48, if_neg c52, if_neg c56, if_neg c60, if_neg c64, if_neg c68, if_neg c72, if_neg c76, if_pos c80]; rfl))
                        exact W.vret hx hb hr (fun t ht hW => ⟨⟨u83, rfl, ⟨hq1.symm, hIu83⟩, by rw [ht]; exact hP, va_K.moved hW.alike hK, hD⟩, hS.F ht⟩) hS.2.2 dX0_obey_138
                      · refine lv_tableOut (tgt := 134) hx hb dX0_obey_19 (by have h0 := ti_ne c48 (n := 0) (by decide); have h1 := ti_ne c52 (n := 1) (by decide); have h2 := ti_ne c56 (n := 2) (by decide); have h3 := ti_ne c60 (n := 3) (by decide); have h4 := ti_ne c64 (n := 4) (by decide); have h5 := ti_ne c68 (n := 5) (by decide); have h6 := ti_ne c72 (n := 6) (by decide); have h7 := ti_ne c76 (n := 7) (by decide); have h8 := ti_ne c80 (n := 8) (by decide); omega) (by decide) ?_
                        refine lv_aload_n hx hb dX0_obey_134 rfl (lv_at hl 0 rfl) ?_
                        have hFc := va_free (wc := wX cI cZ h u47) hD hS hA [0, 1, 2, 3, 4, 5] rfl
                        refine va_callv (va_runV (As := []) (rest := []) ⟨hx, hb, hml, hown, hts⟩ (kX0_obeyDirector l D cI cZ h H46.size u47  hIu47) (cwV 0 hts gX0_obey_X0_obeyDirector rfl rfl rfl (by decide +kernel) ⟨Nat.le_of_ble_eq_true rfl, Nat.le_of_ble_eq_true rfl⟩) ⟨bl_W, va_recv hK hP (ci := 0) (q0 := 0) rfl rfl, pr_W hP hK hD⟩ rfl rfl hl.1 rfl (lv_room (Nat.le_of_ble_eq_true rfl)) dX0_obey_135 ⟨Nat.zero_le _, Nat.zero_le _⟩) hS (fun q _ h9 => hFc q h9) hFc (fun u86 t H85 locs ht hvm hw hB hz1 hk1 hS => ?_)
                        obtain ⟨hP, hK, hD⟩ := af_W hB ht hvm hFc
                        clear hFc hB
                        obtain ⟨eu86, hIu86⟩ := hw
                        have hq1 : pX0_obey u a1 = u86 := (by subst eu86; subst eu47; subst er41; unfold pX0_obey; first | (rw [if_neg c1, if_neg c44, if_neg c48, if_neg c52, if_neg c56, if_neg c60, if_neg c64, if_neg c68, if_neg c72, if_neg c76, if_neg c80]; done) | (rw [if_neg c1, if_neg c44, if_neg c48, if_neg c52, if_neg c56, if_neg c60, if_neg c64, if_neg c68, if_neg c72, if_neg c76, if_neg c80]; rfl))
                        exact W.vret hx hb hr (fun t ht hW => ⟨⟨u86, rfl, ⟨hq1.symm, hIu86⟩, by rw [ht]; exact hP, va_K.moved hW.alike hK, hD⟩, hS.F ht⟩) hS.2.2 dX0_obey_138
    · have hq1 : pX0_obey u a1 = u := (by subst er41; unfold pX0_obey; first | (rw [if_neg c1, if_pos c44]; done) | (rw [if_neg c1, if_pos c44]; rfl))
      exact W.vret hx hb hr (fun t ht hW => ⟨⟨u, rfl, ⟨hq1.symm, hI⟩, by rw [ht]; exact hP, va_K.moved hW.alike hK, hD⟩, hS.F ht⟩) hS.2.2 dX0_obey_13
