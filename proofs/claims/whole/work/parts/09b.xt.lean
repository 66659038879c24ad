theorem vi_m {x r : Int32} (e : r = pX0_isMeasure x) (c : ¬ r = 0) : vp_in x 7 := by
  unfold pX0_isMeasure at e
  by_cases h1 : x < 0
  · rw [if_pos h1] at e; exact absurd e c
  · rw [if_neg h1] at e
    by_cases h2 : (7 : Int32) ≤ x
    · rw [if_pos h2] at e; exact absurd e c
    · refine vi_7 h1 (fun h3 => h2 ?_)
      obtain ⟨j, hj, rfl⟩ := nI_of h1
      have h4 : 6 < j := (nI_ltI (a := 6) (by decide) hj).mp h3
      exact nI_le (a := 7) (b := j) h4 hj
def pX0_press (u : XS) (a1 : Int32) : Option (Int32 × XS) := if a1 < 0 then (none) else (if a1 < 10 then (if (pX0_stateAsNumber ((pX0_settle (pX0_obey (pX0_stopFlashing u) a1)).2)) = (pX0_stateAsNumber u) then (some (0, (pX0_settle (pX0_obey (pX0_stopFlashing u) a1)).2)) else (some (1, (pX0_settle (pX0_obey (pX0_stopFlashing u) a1)).2))) else (none))
set_option maxHeartbeats 4000000 in
set_option maxRecDepth 100000 in
theorem kX0_press (l : Launch) (hlt : l.stackTraces = false) (D : va_G) (cI cZ : ClassId) (h : Nat → Nat) (sa : Nat → Nat) (tL tH : Nat) (sz : Nat) (u : XS) (a1 : Int32) (hI : InvX u) : Mt l yX0_press wsX0_press { frames := 6, cells := 1, slots := 6, locals := 129 } D (tyl cI cZ) (wX cI cZ h) sz u [.ref (h 0), .int a1] sa tL tH (fun r u9 => some (r, u9) = pX0_press u a1 ∧ InvX u9) (fun u9 => pX0_press u a1 = none ∧ u9 = u ∧ InvX u9) := by
  refine vx_ofW (cc := cX0_press) (maxL := 3) (ret := (some .int)) (by decide) rfl ?_
  intro p e s m args below meth c s₁ B hml hno hv
  obtain ⟨rfl, ⟨hsz, hP, hK, hD0⟩, hTU, hTN, hs28, hs51, hs59, hs61, hs86, hs88, hs102, hZL, hTL, hZH, hTH, hNN⟩ := hv
  have hx := B.exec
  have hb := B.bytes
  have hr := B.returns
  have hts := atoms_spec (ws := wsX0_press) B.pre
  have hin : ∀ w ∈ wsX00, w ∈ wsX0_press := fun w h9 => List.mem_cons_of_mem _ (List.mem_append_left _ (List.mem_append_right _ h9))
  have hvx : ∀ w ∈ vxA.filter goodWord, w ∈ wsX0_press := fun w h9 => List.mem_cons_of_mem _ (List.mem_append_right _ h9)
  have hown : s.vm.findClass RX0 = some m.cls := findClass_of_methodNamed B.named
  have hlocks := B.notSynchronized
  subst hsz
  have hD : va_D (va_A (wX cI cZ h u) s.heap.size) (wX cI cZ h u) := hD0.self (sz := s.heap.size)
  have hA : ∀ q : Nat, s.heap.size ≤ q → va_A (wX cI cZ h u) s.heap.size q := fun q h9 => Or.inr h9
  have hS : va_S (va_A (wX cI cZ h u) s.heap.size) s.heap s.heap [] := va_S.rf
  have hl := lv_entry ([.ref (h 0), .int a1]) (n := 3) (Nat.le_of_ble_eq_true rfl)
  rw [lg_entry_eq]
  generalize (lg_sl ([.ref (h 0), .int a1]) ++ List.replicate (3 - (lg_sl ([.ref (h 0), .int a1])).length) Slot.unset).toArray = ls at hl ⊢
  have hl : lv_has ls 3 [(0, .ref (h 0)), (1, .int a1)] := hl
  generalize va_A (wX cI cZ h u) s.heap.size = A at hD hA hS hTU hTN hZL hTL hZH hTH ⊢
  refine lv_iload_n hx hb dX0_press_0 rfl (lv_at hl 1 rfl) ?_
  refine lv_if_lt (tgt := 10) hx hb dX0_press_1 (by decide) (fun c1 => ?_) (fun c1 => ?_)
  · have hq1 : pX0_press u a1 = none := (by unfold pX0_press; first | (rw [if_pos c1]; done) | (rw [if_pos c1]; rfl))
    exact vx_throwS (own := RX0) (cls := iaeN) (text := "no such button") (names := iaeU) (ik := 26) (is := 28) (ic := 30) (sa := sa 28) (mc := 1) (ms := 6) (A := A) hx hb hlt hown (by decide) (by decide) (hts (.classLink RX0 26 iaeN) (by decide +kernel)) (hts (.initialized iaeN) (by decide +kernel)) hs28 (vxA_all (fun w hw => hts w (hvx w hw)) hNN) vxA_ot hTU hTN hS (hl.1.trans hml.symm) dX0_press_10 dX0_press_13 dX0_press_14 dX0_press_16 dX0_press_19 (fun x hx9 => (hno x hx9).elim) (Nat.le_of_ble_eq_true rfl) (Nat.le_of_ble_eq_true rfl) (Nat.le_of_ble_eq_true rfl) (Nat.le_of_ble_eq_true rfl) hlocks (th_X hP hK hD hS ⟨hq1, rfl, hI⟩) hS.2.2 (Nat.le_refl _) (Nat.le_refl _)
  · refine lv_iload_n hx hb dX0_press_4 rfl (lv_at hl 1 rfl) ?_
    refine lv_bipush (v := 10) hx hb dX0_press_5 (by decide) ?_
    refine lv_icmp_lt (tgt := 20) hx hb dX0_press_7 (by decide) (fun c2 => ?_) (fun c2 => ?_)
    · refine lv_aload_n hx hb dX0_press_20 rfl (lv_at hl 0 rfl) ?_
      have hFc := va_free (wc := wX cI cZ h u) hD hS hA [0, 1, 2, 3, 4, 5] rfl
      refine va_calli (va_runV (As := []) (rest := []) ⟨hx, hb, hml, hown, hts⟩ (kX0_stateAsNumber l D cI cZ h s.heap.size u  hI) (cwV 0 hts gX0_press_X0_stateAsNumber rfl rfl rfl (by decide +kernel) ⟨Nat.le_of_ble_eq_true rfl, Nat.le_of_ble_eq_true rfl⟩) ⟨bl_W, va_recv hK hP (ci := 0) (q0 := 0) rfl rfl, pr_W hP hK hD⟩ rfl rfl hl.1 rfl (lv_room (Nat.le_of_ble_eq_true rfl)) dX0_press_21 ⟨Nat.zero_le _, Nat.zero_le _⟩) hS (fun q _ h9 => hFc q h9) hFc (fun r3 u5 t H4 locs ht hvm hw hB hz1 hk1 hS => ?_)
      obtain ⟨hP, hK, hD⟩ := af_W hB ht hvm hFc
      clear hFc hB
      obtain ⟨er3, eu5⟩ := hw
      rw [eu5] at hP hD
      refine lv_istore_n (lv' := [(2, .int r3), (0, .ref (h 0)), (1, .int a1)]) hx hb dX0_press_24 rfl hl (by decide) rfl (fun ls hl => ?_)
      refine lv_aload_n hx hb dX0_press_25 rfl (lv_at hl 1 rfl) ?_
      have hFc := va_free (wc := wX cI cZ h u) hD hS hA [0, 1, 2, 3, 4, 5] rfl
      refine va_callv (va_runV (As := []) (rest := []) ⟨hx, hb, hml, hown, hts⟩ (kX0_stopFlashing l D cI cZ h H4.size u  hI) (cwV 0 hts gX0_press_X0_stopFlashing rfl rfl rfl (by decide +kernel) ⟨Nat.le_of_ble_eq_true rfl, Nat.le_of_ble_eq_true rfl⟩) ⟨bl_W, va_recv hK hP (ci := 0) (q0 := 0) rfl rfl, pr_W hP hK hD⟩ rfl rfl hl.1 rfl (lv_room (Nat.le_of_ble_eq_true rfl)) dX0_press_26 ⟨Nat.zero_le _, Nat.zero_le _⟩) hS (fun q _ h9 => hFc q h9) hFc (fun u8 t H7 locs ht hvm hw hB hz1 hk1 hS => ?_)
      obtain ⟨hP, hK, hD⟩ := af_W hB ht hvm hFc
      clear hFc hB
      obtain ⟨eu8, hIu8⟩ := hw
      refine lv_aload_n hx hb dX0_press_29 rfl (lv_at hl 1 rfl) ?_
      refine lv_iload_n hx hb dX0_press_30 rfl (lv_at hl 2 rfl) ?_
      have hFc := va_free (wc := wX cI cZ h u8) hD hS hA [0, 1, 2, 3, 4, 5] rfl
      refine va_callv (va_runV (As := [.int a1]) (rest := []) ⟨hx, hb, hml, hown, hts⟩ (kX0_obey l D cI cZ h H7.size u8 a1 hIu8) (cwV 1 hts gX0_press_X0_obey rfl rfl rfl (by decide +kernel) ⟨Nat.le_of_ble_eq_true rfl, Nat.le_of_ble_eq_true rfl⟩) ⟨bl_W, va_recv hK hP (ci := 0) (q0 := 0) rfl rfl, pr_W hP hK hD⟩ rfl rfl hl.1 rfl (lv_room (Nat.le_of_ble_eq_true rfl)) dX0_press_31 ⟨Nat.zero_le _, Nat.zero_le _⟩) hS (fun q _ h9 => hFc q h9) hFc (fun u11 t H10 locs ht hvm hw hB hz1 hk1 hS => ?_)
      obtain ⟨hP, hK, hD⟩ := af_W hB ht hvm hFc
      clear hFc hB
      obtain ⟨eu11, hIu11⟩ := hw
      refine lv_aload_n hx hb dX0_press_34 rfl (lv_at hl 1 rfl) ?_
      have hFc := va_free (wc := wX cI cZ h u11) hD hS hA [0, 1, 2, 3, 4, 5] rfl
      refine va_calli (va_runV (As := []) (rest := []) ⟨hx, hb, hml, hown, hts⟩ (kX0_settle l D cI cZ h H10.size u11  hIu11) (cwV 0 hts gX0_press_X0_settle rfl rfl rfl (by decide +kernel) ⟨Nat.le_of_ble_eq_true rfl, Nat.le_of_ble_eq_true rfl⟩) ⟨bl_W, va_recv hK hP (ci := 0) (q0 := 0) rfl rfl, pr_W hP hK hD⟩ rfl rfl hl.1 rfl (lv_room (Nat.le_of_ble_eq_true rfl)) dX0_press_35 ⟨Nat.zero_le _, Nat.zero_le _⟩) hS (fun q _ h9 => hFc q h9) hFc (fun r12 u14 t H13 locs ht hvm hw hB hz1 hk1 hS => ?_)
      obtain ⟨hP, hK, hD⟩ := af_W hB ht hvm hFc
      clear hFc hB
      obtain ⟨e9, hIu14⟩ := hw
      have er12 : r12 = (pX0_settle u11).1 := congrArg Prod.fst e9
      have eu14 : u14 = (pX0_settle u11).2 := congrArg Prod.snd e9
      clear e9
      refine lv_pop hx hb dX0_press_38 rfl ?_
      refine lv_aload_n hx hb dX0_press_39 rfl (lv_at hl 1 rfl) ?_
      have hFc := va_free (wc := wX cI cZ h u14) hD hS hA [0, 1, 2, 3, 4, 5] rfl
      refine va_calli (va_runV (As := []) (rest := []) ⟨hx, hb, hml, hown, hts⟩ (kX0_stateAsNumber l D cI cZ h H13.size u14  hIu14) (cwV 0 hts gX0_press_X0_stateAsNumber rfl rfl rfl (by decide +kernel) ⟨Nat.le_of_ble_eq_true rfl, Nat.le_of_ble_eq_true rfl⟩) ⟨bl_W, va_recv hK hP (ci := 0) (q0 := 0) rfl rfl, pr_W hP hK hD⟩ rfl rfl hl.1 rfl (lv_room (Nat.le_of_ble_eq_true rfl)) dX0_press_40 ⟨Nat.zero_le _, Nat.zero_le _⟩) hS (fun q _ h9 => hFc q h9) hFc (fun r15 u17 t H16 locs ht hvm hw hB hz1 hk1 hS => ?_)
      obtain ⟨hP, hK, hD⟩ := af_W hB ht hvm hFc
      clear hFc hB
      obtain ⟨er15, eu17⟩ := hw
      rw [eu17] at hP hD
      refine lv_iload_n hx hb dX0_press_43 rfl (lv_at hl 0 rfl) ?_
      refine lv_icmp_ne (tgt := 51) hx hb dX0_press_44 (by decide) (fun c18 => ?_) (fun c18 => ?_)
      · refine lv_iconst (v := 1) hx hb dX0_press_51 (by decide) ?_
        have hq1 : pX0_press u a1 = some (1, u14) := (by subst er15; subst eu14; subst er12; subst eu11; subst eu8; subst er3; unfold pX0_press; first | (rw [if_neg c1, if_pos c2, if_neg c18]; done) | (rw [if_neg c1, if_pos c2, if_neg c18]; rfl))
        exact vx_ret (W.widen (k := 1) (n := 6) (Nat.le_of_ble_eq_true rfl) (Nat.le_of_ble_eq_true rfl) (W.iret (v := 1) hx hb hr (fun t ht hW => ⟨⟨1, u14, rfl, ⟨hq1.symm, hIu14⟩, by rw [ht]; exact hP, va_K.moved hW.alike hK, hD⟩, hS.F ht⟩) hS.2.2 dX0_press_52))
      · refine lv_iconst (v := 0) hx hb dX0_press_47 (by decide) ?_
        refine lv_goto (tgt := 52) hx hb dX0_press_48 (by decide) ?_
        have hq1 : pX0_press u a1 = some (0, u14) := (by subst er15; subst eu14; subst er12; subst eu11; subst eu8; subst er3; unfold pX0_press; first | (rw [if_neg c1, if_pos c2, if_pos c18]; done) | (rw [if_neg c1, if_pos c2, if_pos c18]; rfl))
        exact vx_ret (W.widen (k := 1) (n := 6) (Nat.le_of_ble_eq_true rfl) (Nat.le_of_ble_eq_true rfl) (W.iret (v := 0) hx hb hr (fun t ht hW => ⟨⟨0, u14, rfl, ⟨hq1.symm, hIu14⟩, by rw [ht]; exact hP, va_K.moved hW.alike hK, hD⟩, hS.F ht⟩) hS.2.2 dX0_press_52))
    · have hq1 : pX0_press u a1 = none := (by unfold pX0_press; first | (rw [if_neg c1, if_neg c2]; done) | (rw [if_neg c1, if_neg c2]; rfl))
      exact vx_throwS (own := RX0) (cls := iaeN) (text := "no such button") (names := iaeU) (ik := 26) (is := 28) (ic := 30) (sa := sa 28) (mc := 1) (ms := 6) (A := A) hx hb hlt hown (by decide) (by decide) (hts (.classLink RX0 26 iaeN) (by decide +kernel)) (hts (.initialized iaeN) (by decide +kernel)) hs28 (vxA_all (fun w hw => hts w (hvx w hw)) hNN) vxA_ot hTU hTN hS (hl.1.trans hml.symm) dX0_press_10 dX0_press_13 dX0_press_14 dX0_press_16 dX0_press_19 (fun x hx9 => (hno x hx9).elim) (Nat.le_of_ble_eq_true rfl) (Nat.le_of_ble_eq_true rfl) (Nat.le_of_ble_eq_true rfl) (Nat.le_of_ble_eq_true rfl) hlocks (th_X hP hK hD hS ⟨hq1, rfl, hI⟩) hS.2.2 (Nat.le_refl _) (Nat.le_refl _)
def pX0_sense (u : XS) (a1 a2 : Int32) : Option (Int32 × XS) := if (pX0_isMeasure a1) = 0 then (none) else (if a2 < (loV (Int32.toNatClampNeg a1)) then (none) else (if a2 ≤ (hiV (Int32.toNatClampNeg a1)) then (some ((pX0_settle (xM_ u (upd (xM u) (Int32.toNatClampNeg a1) a2))).1, (pX0_settle (xM_ u (upd (xM u) (Int32.toNatClampNeg a1) a2))).2)) else (none)))
set_option maxHeartbeats 4000000 in
set_option maxRecDepth 100000 in
theorem kX0_sense (l : Launch) (hlt : l.stackTraces = false) (D : va_G) (cI cZ : ClassId) (h : Nat → Nat) (sa : Nat → Nat) (tL tH : Nat) (sz : Nat) (u : XS) (a1 a2 : Int32) (hI : InvX u) : Mt l yX0_sense wsX0_sense { frames := 6, cells := 1, slots := 6, locals := 129 } D (tyl cI cZ) (wX cI cZ h) sz u [.ref (h 0), .int a1, .int a2] sa tL tH (fun r u9 => some (r, u9) = pX0_sense u a1 a2 ∧ InvX u9) (fun u9 => pX0_sense u a1 a2 = none ∧ u9 = u ∧ InvX u9) := by
  refine vx_ofW (cc := cX0_sense) (maxL := 3) (ret := (some .int)) (by decide) rfl ?_
  intro p e s m args below meth c s₁ B hml hno hv
  obtain ⟨rfl, ⟨hsz, hP, hK, hD0⟩, hTU, hTN, hs28, hs51, hs59, hs61, hs86, hs88, hs102, hZL, hTL, hZH, hTH, hNN⟩ := hv
  have hx := B.exec
  have hb := B.bytes
  have hr := B.returns
  have hts := atoms_spec (ws := wsX0_sense) B.pre
  have hin : ∀ w ∈ wsX00, w ∈ wsX0_sense := fun w h9 => List.mem_cons_of_mem _ (List.mem_append_left _ (List.mem_append_right _ h9))
  have hvx : ∀ w ∈ vxA.filter goodWord, w ∈ wsX0_sense := fun w h9 => List.mem_cons_of_mem _ (List.mem_append_right _ h9)
  have hown : s.vm.findClass RX0 = some m.cls := findClass_of_methodNamed B.named
  have hlocks := B.notSynchronized
  subst hsz
  have hD : va_D (va_A (wX cI cZ h u) s.heap.size) (wX cI cZ h u) := hD0.self (sz := s.heap.size)
  have hA : ∀ q : Nat, s.heap.size ≤ q → va_A (wX cI cZ h u) s.heap.size q := fun q h9 => Or.inr h9
  have hS : va_S (va_A (wX cI cZ h u) s.heap.size) s.heap s.heap [] := va_S.rf
  have hl := lv_entry ([.ref (h 0), .int a1, .int a2]) (n := 3) (Nat.le_of_ble_eq_true rfl)
  rw [lg_entry_eq]
  generalize (lg_sl ([.ref (h 0), .int a1, .int a2]) ++ List.replicate (3 - (lg_sl ([.ref (h 0), .int a1, .int a2])).length) Slot.unset).toArray = ls at hl ⊢
  have hl : lv_has ls 3 [(0, .ref (h 0)), (1, .int a1), (2, .int a2)] := hl
  generalize va_A (wX cI cZ h u) s.heap.size = A at hD hA hS hTU hTN hZL hTL hZH hTH ⊢
  refine lv_iload_n hx hb dX0_sense_0 rfl (lv_at hl 1 rfl) ?_
  refine va_calli (va_runS (As := [.int a1]) (rest := []) ⟨hx, hb, hml, hown, hts⟩ (kX0_isMeasure l D (tyl cI cZ) s.heap.size a1) (va_cwS 1 hts gX0_sense_X0_isMeasure rfl rfl rfl (by decide +kernel) ⟨Nat.le_of_ble_eq_true rfl, Nat.le_of_ble_eq_true rfl⟩) ⟨bl_W, pr_W (ws := wE ()) pE hK (dE (A := A))⟩ rfl rfl hl.1 rfl (lv_room (Nat.le_of_ble_eq_true rfl)) dX0_sense_1 ⟨Nat.zero_le _, Nat.zero_le _⟩) hS (fun q _ h9 => fr_E hS hA q h9) (fr_E hS hA) (fun r1 u9 t H2 locs ht hvm hw hB hz1 hk1 hS => ?_)
  have hP := af_E hP hk1
  obtain ⟨er1, br1⟩ := hw
  refine lv_if_ne (tgt := 17) hx hb dX0_sense_4 (by decide) (fun c3 => ?_) (fun c3 => ?_)
  · refine lv_iload_n hx hb dX0_sense_17 rfl (lv_at hl 2 rfl) ?_
    refine va_gets (C := "ModeDesk") (n := "LOWEST") (d := "[I") (own := RX0) (ref := "ModeDesk") (v := .ref tL) hx hb hZL hS hown (hts (.fieldLink RX0 53 "ModeDesk" "LOWEST" "[I") (by decide +kernel)) (fun _ h9 => h9) dX0_sense_18 ?_
    refine lv_iload_n hx hb dX0_sense_21 rfl (lv_at hl 1 rfl) ?_
    refine va_ti (v := .int (loV (Int32.toNatClampNeg a1))) hx hb hTL hS (vi_m er1 c3) rfl dX0_sense_22 ?_
    refine lv_icmp_lt (tgt := 35) hx hb dX0_sense_23 (by decide) (fun c4 => ?_) (fun c4 => ?_)
    · have hq1 : pX0_sense u a1 a2 = none := (by subst er1; unfold pX0_sense; first | (rw [if_neg c3, if_pos c4]; done) | (rw [if_neg c3, if_pos c4]; rfl))
      exact vx_throwS (own := RX0) (cls := iaeN) (text := "out of the measure's range") (names := iaeU) (ik := 26) (is := 59) (ic := 30) (sa := sa 59) (mc := 1) (ms := 6) (A := A) hx hb hlt hown (by decide) (by decide) (hts (.classLink RX0 26 iaeN) (by decide +kernel)) (hts (.initialized iaeN) (by decide +kernel)) hs59 (vxA_all (fun w hw => hts w (hvx w hw)) hNN) vxA_ot hTU hTN hS (hl.1.trans hml.symm) dX0_sense_35 dX0_sense_38 dX0_sense_39 dX0_sense_41 dX0_sense_44 (fun x hx9 => (hno x hx9).elim) (Nat.le_of_ble_eq_true rfl) (Nat.le_of_ble_eq_true rfl) (Nat.le_of_ble_eq_true rfl) (Nat.le_of_ble_eq_true rfl) hlocks (th_X hP hK hD hS ⟨hq1, rfl, hI⟩) hS.2.2 (Nat.le_refl _) (Nat.le_refl _)
    · refine lv_iload_n hx hb dX0_sense_26 rfl (lv_at hl 2 rfl) ?_
      refine va_gets (C := "ModeDesk") (n := "HIGHEST") (d := "[I") (own := RX0) (ref := "ModeDesk") (v := .ref tH) hx hb hZH hS hown (hts (.fieldLink RX0 56 "ModeDesk" "HIGHEST" "[I") (by decide +kernel)) (fun _ h9 => h9) dX0_sense_27 ?_
      refine lv_iload_n hx hb dX0_sense_30 rfl (lv_at hl 1 rfl) ?_
      refine va_ti (v := .int (hiV (Int32.toNatClampNeg a1))) hx hb hTH hS (vi_m er1 c3) rfl dX0_sense_31 ?_
      refine lv_icmp_le (tgt := 45) hx hb dX0_sense_32 (by decide) (fun c5 => ?_) (fun c5 => ?_)
      · refine lv_aload_n hx hb dX0_sense_45 rfl (lv_at hl 0 rfl) ?_
        refine va_get (D := D) (ci := 0) (v := .ref (h 3)) (C := RX0) (T := TX0) (N := 12) hx hb hts hin hown hK hP 0 rfl rfl 2 (by decide) (hts (.fieldLink RX0 16 "ModeDesk" "measures" "[I") (by decide +kernel)) (fun _ h9 => h9) rfl dX0_sense_46 ?_
        refine lv_iload_n hx hb dX0_sense_49 rfl (lv_at hl 1 rfl) ?_
        refine lv_iload_n hx hb dX0_sense_50 rfl (lv_at hl 2 rfl) ?_
        refine va_iast hx hb hK hP hD hS 3 0 rfl rfl (vi_m er1 c3) dX0_sense_51 (fun H7 locs hP hD hS => ?_)
        obtain ⟨u6, eu6⟩ : ∃ y : XS, y = xM_ u (upd (xM u) (Int32.toNatClampNeg a1) a2) := ⟨_, rfl⟩
        have hP : va_P D vwCl (wX cI cZ h u6) H7 := by rw [eu6]; exact hP
        have hD : va_D A (wX cI cZ h u6) := by rw [eu6]; exact hD
        have hIu6 : InvX u6 := by rw [eu6]; exact InvX.sM hI _
        refine lv_aload_n hx hb dX0_sense_52 rfl (lv_at hl 0 rfl) ?_
        have hFc := va_free (wc := wX cI cZ h u6) hD hS hA [0, 1, 2, 3, 4, 5] rfl
        refine va_calli (va_runV (As := []) (rest := []) ⟨hx, hb, hml, hown, hts⟩ (kX0_settle l D cI cZ h H7.size u6  hIu6) (cwV 0 hts gX0_sense_X0_settle rfl rfl rfl (by decide +kernel) ⟨Nat.le_of_ble_eq_true rfl, Nat.le_of_ble_eq_true rfl⟩) ⟨bl_W, va_recv hK hP (ci := 0) (q0 := 0) rfl rfl, pr_W hP hK hD⟩ rfl rfl hl.1 rfl (lv_room (Nat.le_of_ble_eq_true rfl)) dX0_sense_53 ⟨Nat.zero_le _, Nat.zero_le _⟩) hS (fun q _ h9 => hFc q h9) hFc (fun r8 u10 t H9 locs ht hvm hw hB hz1 hk1 hS => ?_)
        obtain ⟨hP, hK, hD⟩ := af_W hB ht hvm hFc
        clear hFc hB
        obtain ⟨e9, hIu10⟩ := hw
        have er8 : r8 = (pX0_settle u6).1 := congrArg Prod.fst e9
        have eu10 : u10 = (pX0_settle u6).2 := congrArg Prod.snd e9
        clear e9
        have hq1 : pX0_sense u a1 a2 = some (r8, u10) := (by subst eu10; subst er8; subst eu6; subst er1; unfold pX0_sense; first | (rw [if_neg c3, if_neg c4, if_pos c5]; done) | (rw [if_neg c3, if_neg c4, if_pos c5]; rfl))
        exact vx_ret (W.widen (k := 1) (n := 6) (Nat.le_of_ble_eq_true rfl) (Nat.le_of_ble_eq_true rfl) (W.iret (v := r8) hx hb hr (fun t ht hW => ⟨⟨r8, u10, rfl, ⟨hq1.symm, hIu10⟩, by rw [ht]; exact hP, va_K.moved hW.alike hK, hD⟩, hS.F ht⟩) hS.2.2 dX0_sense_56))
      · have hq1 : pX0_sense u a1 a2 = none := (by subst er1; unfold pX0_sense; first | (rw [if_neg c3, if_neg c4, if_neg c5]; done) | (rw [if_neg c3, if_neg c4, if_neg c5]; rfl))
        exact vx_throwS (own := RX0) (cls := iaeN) (text := "out of the measure's range") (names := iaeU) (ik := 26) (is := 59) (ic := 30) (sa := sa 59) (mc := 1) (ms := 6) (A := A) hx hb hlt hown (by decide) (by decide) (hts (.classLink RX0 26 iaeN) (by decide +kernel)) (hts (.initialized iaeN) (by decide +kernel)) hs59 (vxA_all (fun w hw => hts w (hvx w hw)) hNN) vxA_ot hTU hTN hS (hl.1.trans hml.symm) dX0_sense_35 dX0_sense_38 dX0_sense_39 dX0_sense_41 dX0_sense_44 (fun x hx9 => (hno x hx9).elim) (Nat.le_of_ble_eq_true rfl) (Nat.le_of_ble_eq_true rfl) (Nat.le_of_ble_eq_true rfl) (Nat.le_of_ble_eq_true rfl) hlocks (th_X hP hK hD hS ⟨hq1, rfl, hI⟩) hS.2.2 (Nat.le_refl _) (Nat.le_refl _)
  · have hq1 : pX0_sense u a1 a2 = none := (by subst er1; unfold pX0_sense; first | (rw [if_pos c3]; done) | (rw [if_pos c3]; rfl))
    exact vx_throwS (own := RX0) (cls := iaeN) (text := "no such measure") (names := iaeU) (ik := 26) (is := 51) (ic := 30) (sa := sa 51) (mc := 1) (ms := 6) (A := A) hx hb hlt hown (by decide) (by decide) (hts (.classLink RX0 26 iaeN) (by decide +kernel)) (hts (.initialized iaeN) (by decide +kernel)) hs51 (vxA_all (fun w hw => hts w (hvx w hw)) hNN) vxA_ot hTU hTN hS (hl.1.trans hml.symm) dX0_sense_7 dX0_sense_10 dX0_sense_11 dX0_sense_13 dX0_sense_16 (fun x hx9 => (hno x hx9).elim) (Nat.le_of_ble_eq_true rfl) (Nat.le_of_ble_eq_true rfl) (Nat.le_of_ble_eq_true rfl) (Nat.le_of_ble_eq_true rfl) hlocks (th_X hP hK hD hS ⟨hq1, rfl, hI⟩) hS.2.2 (Nat.le_refl _) (Nat.le_refl _)
def pX0_channel (u : XS) (a1 a2 : Int32) : Option (Int32 × XS) := if a1 = 0 then (some ((pX0_settle (xS_ u (upd (xS u) (Int32.toNatClampNeg a1) (vp_nar .boolean a2)))).1, (pX0_settle (xS_ u (upd (xS u) (Int32.toNatClampNeg a1) (vp_nar .boolean a2)))).2)) else (if a1 = 1 then (some ((pX0_settle (xS_ u (upd (xS u) (Int32.toNatClampNeg a1) (vp_nar .boolean a2)))).1, (pX0_settle (xS_ u (upd (xS u) (Int32.toNatClampNeg a1) (vp_nar .boolean a2)))).2)) else (none))
set_option maxHeartbeats 4000000 in
set_option maxRecDepth 100000 in
theorem kX0_channel (l : Launch) (hlt : l.stackTraces = false) (D : va_G) (cI cZ : ClassId) (h : Nat → Nat) (sa : Nat → Nat) (tL tH : Nat) (sz : Nat) (u : XS) (a1 a2 : Int32) (hI : InvX u) (hb2 : bz a2) : Mt l yX0_channel wsX0_channel { frames := 6, cells := 1, slots := 6, locals := 129 } D (tyl cI cZ) (wX cI cZ h) sz u [.ref (h 0), .int a1, .int a2] sa tL tH (fun r u9 => some (r, u9) = pX0_channel u a1 a2 ∧ InvX u9) (fun u9 => pX0_channel u a1 a2 = none ∧ u9 = u ∧ InvX u9) := by
  refine vx_ofW (cc := cX0_channel) (maxL := 3) (ret := (some .int)) (by decide) rfl ?_
  intro p e s m args below meth c s₁ B hml hno hv
  obtain ⟨rfl, ⟨hsz, hP, hK, hD0⟩, hTU, hTN, hs28, hs51, hs59, hs61, hs86, hs88, hs102, hZL, hTL, hZH, hTH, hNN⟩ := hv
  have hx := B.exec
  have hb := B.bytes
  have hr := B.returns
  have hts := atoms_spec (ws := wsX0_channel) B.pre
  have hin : ∀ w ∈ wsX00, w ∈ wsX0_channel := fun w h9 => List.mem_cons_of_mem _ (List.mem_append_left _ (List.mem_append_right _ h9))
  have hvx : ∀ w ∈ vxA.filter goodWord, w ∈ wsX0_channel := fun w h9 => List.mem_cons_of_mem _ (List.mem_append_right _ h9)
  have hown : s.vm.findClass RX0 = some m.cls := findClass_of_methodNamed B.named
  have hlocks := B.notSynchronized
  subst hsz
  have hD : va_D (va_A (wX cI cZ h u) s.heap.size) (wX cI cZ h u) := hD0.self (sz := s.heap.size)
  have hA : ∀ q : Nat, s.heap.size ≤ q → va_A (wX cI cZ h u) s.heap.size q := fun q h9 => Or.inr h9
  have hS : va_S (va_A (wX cI cZ h u) s.heap.size) s.heap s.heap [] := va_S.rf
  have hl := lv_entry ([.ref (h 0), .int a1, .int a2]) (n := 3) (Nat.le_of_ble_eq_true rfl)
  rw [lg_entry_eq]
  generalize (lg_sl ([.ref (h 0), .int a1, .int a2]) ++ List.replicate (3 - (lg_sl ([.ref (h 0), .int a1, .int a2])).length) Slot.unset).toArray = ls at hl ⊢
  have hl : lv_has ls 3 [(0, .ref (h 0)), (1, .int a1), (2, .int a2)] := hl
  generalize va_A (wX cI cZ h u) s.heap.size = A at hD hA hS hTU hTN hZL hTL hZH hTH ⊢
  refine lv_iload_n hx hb dX0_channel_0 rfl (lv_at hl 1 rfl) ?_
  refine lv_if_eq (tgt := 19) hx hb dX0_channel_1 (by decide) (fun c1 => ?_) (fun c1 => ?_)
  · refine lv_aload_n hx hb dX0_channel_19 rfl (lv_at hl 0 rfl) ?_
    refine va_get (D := D) (ci := 0) (v := .ref (h 4)) (C := RX0) (T := TX0) (N := 12) hx hb hts hin hown hK hP 0 rfl rfl 3 (by decide) (hts (.fieldLink RX0 19 "ModeDesk" "soundness" "[Z") (by decide +kernel)) (fun _ h9 => h9) rfl dX0_channel_20 ?_
    refine lv_iload_n hx hb dX0_channel_23 rfl (lv_at hl 1 rfl) ?_
    refine lv_iload_n hx hb dX0_channel_24 rfl (lv_at hl 2 rfl) ?_
    refine va_zast hx hb hK hP hD hS 4 1 rfl rfl (vi_2 (by first | exact Or.inl c1 | exact Or.inr c1)) dX0_channel_25 (fun H3 locs hP hD hS => ?_)
    obtain ⟨u2, eu2⟩ : ∃ y : XS, y = xS_ u (upd (xS u) (Int32.toNatClampNeg a1) (vp_nar .boolean a2)) := ⟨_, rfl⟩
    have hP : va_P D vwCl (wX cI cZ h u2) H3 := by rw [eu2]; exact hP
    have hD : va_D A (wX cI cZ h u2) := by rw [eu2]; exact hD
    have hIu2 : InvX u2 := by rw [eu2]; exact InvX.sS hI _
    refine lv_aload_n hx hb dX0_channel_26 rfl (lv_at hl 0 rfl) ?_
    have hFc := va_free (wc := wX cI cZ h u2) hD hS hA [0, 1, 2, 3, 4, 5] rfl
    refine va_calli (va_runV (As := []) (rest := []) ⟨hx, hb, hml, hown, hts⟩ (kX0_settle l D cI cZ h H3.size u2  hIu2) (cwV 0 hts gX0_channel_X0_settle rfl rfl rfl (by decide +kernel) ⟨Nat.le_of_ble_eq_true rfl, Nat.le_of_ble_eq_true rfl⟩) ⟨bl_W, va_recv hK hP (ci := 0) (q0 := 0) rfl rfl, pr_W hP hK hD⟩ rfl rfl hl.1 rfl (lv_room (Nat.le_of_ble_eq_true rfl)) dX0_channel_27 ⟨Nat.zero_le _, Nat.zero_le _⟩) hS (fun q _ h9 => hFc q h9) hFc (fun r4 u6 t H5 locs ht hvm hw hB hz1 hk1 hS => ?_)
    obtain ⟨hP, hK, hD⟩ := af_W hB ht hvm hFc
    clear hFc hB
    obtain ⟨e9, hIu6⟩ := hw
    have er4 : r4 = (pX0_settle u2).1 := congrArg Prod.fst e9
    have eu6 : u6 = (pX0_settle u2).2 := congrArg Prod.snd e9
    clear e9
    have hq1 : pX0_channel u a1 a2 = some (r4, u6) := (by subst eu6; subst er4; subst eu2; unfold pX0_channel; first | (rw [if_pos c1]; done) | (rw [if_pos c1]; rfl))
    exact vx_ret (W.widen (k := 1) (n := 6) (Nat.le_of_ble_eq_true rfl) (Nat.le_of_ble_eq_true rfl) (W.iret (v := r4) hx hb hr (fun t ht hW => ⟨⟨r4, u6, rfl, ⟨hq1.symm, hIu6⟩, by rw [ht]; exact hP, va_K.moved hW.alike hK, hD⟩, hS.F ht⟩) hS.2.2 dX0_channel_30))
  · refine lv_iload_n hx hb dX0_channel_4 rfl (lv_at hl 1 rfl) ?_
    refine lv_iconst (v := 1) hx hb dX0_channel_5 (by decide) ?_
    refine lv_icmp_eq (tgt := 19) hx hb dX0_channel_6 (by decide) (fun c7 => ?_) (fun c7 => ?_)
    · refine lv_aload_n hx hb dX0_channel_19 rfl (lv_at hl 0 rfl) ?_
      refine va_get (D := D) (ci := 0) (v := .ref (h 4)) (C := RX0) (T := TX0) (N := 12) hx hb hts hin hown hK hP 0 rfl rfl 3 (by decide) (hts (.fieldLink RX0 19 "ModeDesk" "soundness" "[Z") (by decide +kernel)) (fun _ h9 => h9) rfl dX0_channel_20 ?_
      refine lv_iload_n hx hb dX0_channel_23 rfl (lv_at hl 1 rfl) ?_
      refine lv_iload_n hx hb dX0_channel_24 rfl (lv_at hl 2 rfl) ?_
      refine va_zast hx hb hK hP hD hS 4 1 rfl rfl (vi_2 (by first | exact Or.inl c7 | exact Or.inr c7)) dX0_channel_25 (fun H9 locs hP hD hS => ?_)
      obtain ⟨u8, eu8⟩ : ∃ y : XS, y = xS_ u (upd (xS u) (Int32.toNatClampNeg a1) (vp_nar .boolean a2)) := ⟨_, rfl⟩
      have hP : va_P D vwCl (wX cI cZ h u8) H9 := by rw [eu8]; exact hP
      have hD : va_D A (wX cI cZ h u8) := by rw [eu8]; exact hD
      have hIu8 : InvX u8 := by rw [eu8]; exact InvX.sS hI _
      refine lv_aload_n hx hb dX0_channel_26 rfl (lv_at hl 0 rfl) ?_
      have hFc := va_free (wc := wX cI cZ h u8) hD hS hA [0, 1, 2, 3, 4, 5] rfl
      refine va_calli (va_runV (As := []) (rest := []) ⟨hx, hb, hml, hown, hts⟩ (kX0_settle l D cI cZ h H9.size u8  hIu8) (cwV 0 hts gX0_channel_X0_settle rfl rfl rfl (by decide +kernel) ⟨Nat.le_of_ble_eq_true rfl, Nat.le_of_ble_eq_true rfl⟩) ⟨bl_W, va_recv hK hP (ci := 0) (q0 := 0) rfl rfl, pr_W hP hK hD⟩ rfl rfl hl.1 rfl (lv_room (Nat.le_of_ble_eq_true rfl)) dX0_channel_27 ⟨Nat.zero_le _, Nat.zero_le _⟩) hS (fun q _ h9 => hFc q h9) hFc (fun r10 u12 t H11 locs ht hvm hw hB hz1 hk1 hS => ?_)
      obtain ⟨hP, hK, hD⟩ := af_W hB ht hvm hFc
      clear hFc hB
      obtain ⟨e9, hIu12⟩ := hw
      have er10 : r10 = (pX0_settle u8).1 := congrArg Prod.fst e9
      have eu12 : u12 = (pX0_settle u8).2 := congrArg Prod.snd e9
      clear e9
      have hq1 : pX0_channel u a1 a2 = some (r10, u12) := (by subst eu12; subst er10; subst eu8; unfold pX0_channel; first | (rw [if_neg c1, if_pos c7]; done) | (rw [if_neg c1, if_pos c7]; rfl))
      exact vx_ret (W.widen (k := 1) (n := 6) (Nat.le_of_ble_eq_true rfl) (Nat.le_of_ble_eq_true rfl) (W.iret (v := r10) hx hb hr (fun t ht hW => ⟨⟨r10, u12, rfl, ⟨hq1.symm, hIu12⟩, by rw [ht]; exact hP, va_K.moved hW.alike hK, hD⟩, hS.F ht⟩) hS.2.2 dX0_channel_30))
    · have hq1 : pX0_channel u a1 a2 = none := (by unfold pX0_channel; first | (rw [if_neg c1, if_neg c7]; done) | (rw [if_neg c1, if_neg c7]; rfl))
      exact vx_throwS (own := RX0) (cls := iaeN) (text := "no such channel") (names := iaeU) (ik := 26) (is := 61) (ic := 30) (sa := sa 61) (mc := 1) (ms := 6) (A := A) hx hb hlt hown (by decide) (by decide) (hts (.classLink RX0 26 iaeN) (by decide +kernel)) (hts (.initialized iaeN) (by decide +kernel)) hs61 (vxA_all (fun w hw => hts w (hvx w hw)) hNN) vxA_ot hTU hTN hS (hl.1.trans hml.symm) dX0_channel_9 dX0_channel_12 dX0_channel_13 dX0_channel_15 dX0_channel_18 (fun x hx9 => (hno x hx9).elim) (Nat.le_of_ble_eq_true rfl) (Nat.le_of_ble_eq_true rfl) (Nat.le_of_ble_eq_true rfl) (Nat.le_of_ble_eq_true rfl) hlocks (th_X hP hK hD hS ⟨hq1, rfl, hI⟩) hS.2.2 (Nat.le_refl _) (Nat.le_refl _)
def pX0_step (u : XS) (a1 : Int32) : Option (Int32 × XS) := if 1 ≤ a1 then (if a1 < (xF u (Int32.toNatClampNeg 0)) then (if (xF (xF_ u (upd (xF u) (Int32.toNatClampNeg 0) ((xF u (Int32.toNatClampNeg 0)) - a1))) (Int32.toNatClampNeg 0)) ≤ 0 then (if a1 < (xF (xF_ u (upd (xF u) (Int32.toNatClampNeg 0) ((xF u (Int32.toNatClampNeg 0)) - a1))) (Int32.toNatClampNeg 1)) then (if (xF (xF_ (xF_ u (upd (xF u) (Int32.toNatClampNeg 0) ((xF u (Int32.toNatClampNeg 0)) - a1))) (upd (xF (xF_ u (upd (xF u) (Int32.toNatClampNeg 0) ((xF u (Int32.toNatClampNeg 0)) - a1)))) (Int32.toNatClampNeg 1) ((xF (xF_ u (upd (xF u) (Int32.toNatClampNeg 0) ((xF u (Int32.toNatClampNeg 0)) - a1))) (Int32.toNatClampNeg 1)) - a1))) (Int32.toNatClampNeg 1)) ≤ 0 then (some (0, xF_ (xF_ u (upd (xF u) (Int32.toNatClampNeg 0) ((xF u (Int32.toNatClampNeg 0)) - a1))) (upd (xF (xF_ u (upd (xF u) (Int32.toNatClampNeg 0) ((xF u (Int32.toNatClampNeg 0)) - a1)))) (Int32.toNatClampNeg 1) ((xF (xF_ u (upd (xF u) (Int32.toNatClampNeg 0) ((xF u (Int32.toNatClampNeg 0)) - a1))) (Int32.toNatClampNeg 1)) - a1)))) else (some (1, xF_ (xF_ u (upd (xF u) (Int32.toNatClampNeg 0) ((xF u (Int32.toNatClampNeg 0)) - a1))) (upd (xF (xF_ u (upd (xF u) (Int32.toNatClampNeg 0) ((xF u (Int32.toNatClampNeg 0)) - a1)))) (Int32.toNatClampNeg 1) ((xF (xF_ u (upd (xF u) (Int32.toNatClampNeg 0) ((xF u (Int32.toNatClampNeg 0)) - a1))) (Int32.toNatClampNeg 1)) - a1))))) else (if (xF (xF_ (xF_ u (upd (xF u) (Int32.toNatClampNeg 0) ((xF u (Int32.toNatClampNeg 0)) - a1))) (upd (xF (xF_ u (upd (xF u) (Int32.toNatClampNeg 0) ((xF u (Int32.toNatClampNeg 0)) - a1)))) (Int32.toNatClampNeg 1) 0)) (Int32.toNatClampNeg 1)) ≤ 0 then (some (0, xF_ (xF_ u (upd (xF u) (Int32.toNatClampNeg 0) ((xF u (Int32.toNatClampNeg 0)) - a1))) (upd (xF (xF_ u (upd (xF u) (Int32.toNatClampNeg 0) ((xF u (Int32.toNatClampNeg 0)) - a1)))) (Int32.toNatClampNeg 1) 0))) else (some (1, xF_ (xF_ u (upd (xF u) (Int32.toNatClampNeg 0) ((xF u (Int32.toNatClampNeg 0)) - a1))) (upd (xF (xF_ u (upd (xF u) (Int32.toNatClampNeg 0) ((xF u (Int32.toNatClampNeg 0)) - a1)))) (Int32.toNatClampNeg 1) 0))))) else (if a1 < (xF (xF_ u (upd (xF u) (Int32.toNatClampNeg 0) ((xF u (Int32.toNatClampNeg 0)) - a1))) (Int32.toNatClampNeg 1)) then (if (xF (xF_ (xF_ u (upd (xF u) (Int32.toNatClampNeg 0) ((xF u (Int32.toNatClampNeg 0)) - a1))) (upd (xF (xF_ u (upd (xF u) (Int32.toNatClampNeg 0) ((xF u (Int32.toNatClampNeg 0)) - a1)))) (Int32.toNatClampNeg 1) ((xF (xF_ u (upd (xF u) (Int32.toNatClampNeg 0) ((xF u (Int32.toNatClampNeg 0)) - a1))) (Int32.toNatClampNeg 1)) - a1))) (Int32.toNatClampNeg 1)) ≤ 0 then (some (1, xF_ (xF_ u (upd (xF u) (Int32.toNatClampNeg 0) ((xF u (Int32.toNatClampNeg 0)) - a1))) (upd (xF (xF_ u (upd (xF u) (Int32.toNatClampNeg 0) ((xF u (Int32.toNatClampNeg 0)) - a1)))) (Int32.toNatClampNeg 1) ((xF (xF_ u (upd (xF u) (Int32.toNatClampNeg 0) ((xF u (Int32.toNatClampNeg 0)) - a1))) (Int32.toNatClampNeg 1)) - a1)))) else (some (2, xF_ (xF_ u (upd (xF u) (Int32.toNatClampNeg 0) ((xF u (Int32.toNatClampNeg 0)) - a1))) (upd (xF (xF_ u (upd (xF u) (Int32.toNatClampNeg 0) ((xF u (Int32.toNatClampNeg 0)) - a1)))) (Int32.toNatClampNeg 1) ((xF (xF_ u (upd (xF u) (Int32.toNatClampNeg 0) ((xF u (Int32.toNatClampNeg 0)) - a1))) (Int32.toNatClampNeg 1)) - a1))))) else (if (xF (xF_ (xF_ u (upd (xF u) (Int32.toNatClampNeg 0) ((xF u (Int32.toNatClampNeg 0)) - a1))) (upd (xF (xF_ u (upd (xF u) (Int32.toNatClampNeg 0) ((xF u (Int32.toNatClampNeg 0)) - a1)))) (Int32.toNatClampNeg 1) 0)) (Int32.toNatClampNeg 1)) ≤ 0 then (some (1, xF_ (xF_ u (upd (xF u) (Int32.toNatClampNeg 0) ((xF u (Int32.toNatClampNeg 0)) - a1))) (upd (xF (xF_ u (upd (xF u) (Int32.toNatClampNeg 0) ((xF u (Int32.toNatClampNeg 0)) - a1)))) (Int32.toNatClampNeg 1) 0))) else (some (2, xF_ (xF_ u (upd (xF u) (Int32.toNatClampNeg 0) ((xF u (Int32.toNatClampNeg 0)) - a1))) (upd (xF (xF_ u (upd (xF u) (Int32.toNatClampNeg 0) ((xF u (Int32.toNatClampNeg 0)) - a1)))) (Int32.toNatClampNeg 1) 0)))))) else (if (xF (xF_ u (upd (xF u) (Int32.toNatClampNeg 0) 0)) (Int32.toNatClampNeg 0)) ≤ 0 then (if a1 < (xF (xF_ u (upd (xF u) (Int32.toNatClampNeg 0) 0)) (Int32.toNatClampNeg 1)) then (if (xF (xF_ (xF_ u (upd (xF u) (Int32.toNatClampNeg 0) 0)) (upd (xF (xF_ u (upd (xF u) (Int32.toNatClampNeg 0) 0))) (Int32.toNatClampNeg 1) ((xF (xF_ u (upd (xF u) (Int32.toNatClampNeg 0) 0)) (Int32.toNatClampNeg 1)) - a1))) (Int32.toNatClampNeg 1)) ≤ 0 then (some (0, xF_ (xF_ u (upd (xF u) (Int32.toNatClampNeg 0) 0)) (upd (xF (xF_ u (upd (xF u) (Int32.toNatClampNeg 0) 0))) (Int32.toNatClampNeg 1) ((xF (xF_ u (upd (xF u) (Int32.toNatClampNeg 0) 0)) (Int32.toNatClampNeg 1)) - a1)))) else (some (1, xF_ (xF_ u (upd (xF u) (Int32.toNatClampNeg 0) 0)) (upd (xF (xF_ u (upd (xF u) (Int32.toNatClampNeg 0) 0))) (Int32.toNatClampNeg 1) ((xF (xF_ u (upd (xF u) (Int32.toNatClampNeg 0) 0)) (Int32.toNatClampNeg 1)) - a1))))) else (if (xF (xF_ (xF_ u (upd (xF u) (Int32.toNatClampNeg 0) 0)) (upd (xF (xF_ u (upd (xF u) (Int32.toNatClampNeg 0) 0))) (Int32.toNatClampNeg 1) 0)) (Int32.toNatClampNeg 1)) ≤ 0 then (some (0, xF_ (xF_ u (upd (xF u) (Int32.toNatClampNeg 0) 0)) (upd (xF (xF_ u (upd (xF u) (Int32.toNatClampNeg 0) 0))) (Int32.toNatClampNeg 1) 0))) else (some (1, xF_ (xF_ u (upd (xF u) (Int32.toNatClampNeg 0) 0)) (upd (xF (xF_ u (upd (xF u) (Int32.toNatClampNeg 0) 0))) (Int32.toNatClampNeg 1) 0))))) else (if a1 < (xF (xF_ u (upd (xF u) (Int32.toNatClampNeg 0) 0)) (Int32.toNatClampNeg 1)) then (if (xF (xF_ (xF_ u (upd (xF u) (Int32.toNatClampNeg 0) 0)) (upd (xF (xF_ u (upd (xF u) (Int32.toNatClampNeg 0) 0))) (Int32.toNatClampNeg 1) ((xF (xF_ u (upd (xF u) (Int32.toNatClampNeg 0) 0)) (Int32.toNatClampNeg 1)) - a1))) (Int32.toNatClampNeg 1)) ≤ 0 then (some (1, xF_ (xF_ u (upd (xF u) (Int32.toNatClampNeg 0) 0)) (upd (xF (xF_ u (upd (xF u) (Int32.toNatClampNeg 0) 0))) (Int32.toNatClampNeg 1) ((xF (xF_ u (upd (xF u) (Int32.toNatClampNeg 0) 0)) (Int32.toNatClampNeg 1)) - a1)))) else (some (2, xF_ (xF_ u (upd (xF u) (Int32.toNatClampNeg 0) 0)) (upd (xF (xF_ u (upd (xF u) (Int32.toNatClampNeg 0) 0))) (Int32.toNatClampNeg 1) ((xF (xF_ u (upd (xF u) (Int32.toNatClampNeg 0) 0)) (Int32.toNatClampNeg 1)) - a1))))) else (if (xF (xF_ (xF_ u (upd (xF u) (Int32.toNatClampNeg 0) 0)) (upd (xF (xF_ u (upd (xF u) (Int32.toNatClampNeg 0) 0))) (Int32.toNatClampNeg 1) 0)) (Int32.toNatClampNeg 1)) ≤ 0 then (some (1, xF_ (xF_ u (upd (xF u) (Int32.toNatClampNeg 0) 0)) (upd (xF (xF_ u (upd (xF u) (Int32.toNatClampNeg 0) 0))) (Int32.toNatClampNeg 1) 0))) else (some (2, xF_ (xF_ u (upd (xF u) (Int32.toNatClampNeg 0) 0)) (upd (xF (xF_ u (upd (xF u) (Int32.toNatClampNeg 0) 0))) (Int32.toNatClampNeg 1) 0))))))) else (none)
set_option maxHeartbeats 4000000 in
set_option maxRecDepth 100000 in
theorem kX0_step (l : Launch) (hlt : l.stackTraces = false) (D : va_G) (cI cZ : ClassId) (h : Nat → Nat) (sa : Nat → Nat) (tL tH : Nat) (sz : Nat) (u : XS) (a1 : Int32) (hI : InvX u) : Mt l yX0_step wsX0_step { frames := 6, cells := 1, slots := 6, locals := 90 } D (tyl cI cZ) (wX cI cZ h) sz u [.ref (h 0), .int a1] sa tL tH (fun r u9 => some (r, u9) = pX0_step u a1 ∧ InvX u9) (fun u9 => pX0_step u a1 = none ∧ u9 = u ∧ InvX u9) := by
  refine vx_ofW (cc := cX0_step) (maxL := 4) (ret := (some .int)) (by decide) rfl ?_
  intro p e s m args below meth c s₁ B hml hno hv
  obtain ⟨rfl, ⟨hsz, hP, hK, hD0⟩, hTU, hTN, hs28, hs51, hs59, hs61, hs86, hs88, hs102, hZL, hTL, hZH, hTH, hNN⟩ := hv
  have hx := B.exec
  have hb := B.bytes
  have hr := B.returns
  have hts := atoms_spec (ws := wsX0_step) B.pre
  have hin : ∀ w ∈ wsX00, w ∈ wsX0_step := fun w h9 => List.mem_cons_of_mem _ (List.mem_append_left _ (List.mem_append_right _ h9))
  have hvx : ∀ w ∈ vxA.filter goodWord, w ∈ wsX0_step := fun w h9 => List.mem_cons_of_mem _ (List.mem_append_right _ h9)
  have hown : s.vm.findClass RX0 = some m.cls := findClass_of_methodNamed B.named
  have hlocks := B.notSynchronized
  subst hsz
  have hD : va_D (va_A (wX cI cZ h u) s.heap.size) (wX cI cZ h u) := hD0.self (sz := s.heap.size)
  have hA : ∀ q : Nat, s.heap.size ≤ q → va_A (wX cI cZ h u) s.heap.size q := fun q h9 => Or.inr h9
  have hS : va_S (va_A (wX cI cZ h u) s.heap.size) s.heap s.heap [] := va_S.rf
  have hl := lv_entry ([.ref (h 0), .int a1]) (n := 4) (Nat.le_of_ble_eq_true rfl)
  rw [lg_entry_eq]
  generalize (lg_sl ([.ref (h 0), .int a1]) ++ List.replicate (4 - (lg_sl ([.ref (h 0), .int a1])).length) Slot.unset).toArray = ls at hl ⊢
  have hl : lv_has ls 4 [(0, .ref (h 0)), (1, .int a1)] := hl
  generalize va_A (wX cI cZ h u) s.heap.size = A at hD hA hS hTU hTN hZL hTL hZH hTH ⊢
  refine lv_iload_n hx hb dX0_step_0 rfl (lv_at hl 1 rfl) ?_
  refine lv_iconst (v := 1) hx hb dX0_step_1 (by decide) ?_
  refine lv_icmp_ge (tgt := 15) hx hb dX0_step_2 (by decide) (fun c1 => ?_) (fun c1 => ?_)
  · refine lv_iconst (v := 0) hx hb dX0_step_15 (by decide) ?_
    refine lv_istore_n (lv' := [(2, .int 0), (0, .ref (h 0)), (1, .int a1)]) hx hb dX0_step_16 rfl hl (by decide) rfl (fun ls hl => ?_)
    refine lv_iconst (v := 0) hx hb dX0_step_17 (by decide) ?_
    refine lv_istore_n (lv' := [(3, .int 0), (2, .int 0), (0, .ref (h 0)), (1, .int a1)]) hx hb dX0_step_18 rfl hl (by decide) rfl (fun ls hl => ?_)
    refine lv_iload_n hx hb dX0_step_19 rfl (lv_at hl 0 rfl) ?_
    refine lv_iconst (v := 1) hx hb dX0_step_20 (by decide) ?_
    refine lv_icmp_gt (tgt := 70) hx hb dX0_step_21 (by decide) (fun c9 => absurd c9 (by decide)) (fun _ => ?_)
    refine lv_aload_n hx hb dX0_step_24 rfl (lv_at hl 2 rfl) ?_
    refine va_get (D := D) (ci := 0) (v := .ref (h 2)) (C := RX0) (T := TX0) (N := 12) hx hb hts hin hown hK hP 0 rfl rfl 1 (by decide) (hts (.fieldLink RX0 13 "ModeDesk" "flashing" "[I") (by decide +kernel)) (fun _ h9 => h9) rfl dX0_step_25 ?_
    refine lv_iload_n hx hb dX0_step_28 rfl (lv_at hl 0 rfl) ?_
    refine lv_iload_n hx hb dX0_step_29 rfl (lv_at hl 3 rfl) ?_
    refine lv_aload_n hx hb dX0_step_30 rfl (lv_at hl 2 rfl) ?_
    refine va_get (D := D) (ci := 0) (v := .ref (h 2)) (C := RX0) (T := TX0) (N := 12) hx hb hts hin hown hK hP 0 rfl rfl 1 (by decide) (hts (.fieldLink RX0 13 "ModeDesk" "flashing" "[I") (by decide +kernel)) (fun _ h9 => h9) rfl dX0_step_31 ?_
    refine lv_iload_n hx hb dX0_step_34 rfl (lv_at hl 0 rfl) ?_
    refine va_iald hx hb hK hP 2 0 rfl rfl (vi_c (by decide)) dX0_step_35 ?_
    refine lv_icmp_lt (tgt := 43) hx hb dX0_step_36 (by decide) (fun c2 => ?_) (fun c2 => ?_)
    · refine lv_aload_n hx hb dX0_step_43 rfl (lv_at hl 2 rfl) ?_
      refine va_get (D := D) (ci := 0) (v := .ref (h 2)) (C := RX0) (T := TX0) (N := 12) hx hb hts hin hown hK hP 0 rfl rfl 1 (by decide) (hts (.fieldLink RX0 13 "ModeDesk" "flashing" "[I") (by decide +kernel)) (fun _ h9 => h9) rfl dX0_step_44 ?_
      refine lv_iload_n hx hb dX0_step_47 rfl (lv_at hl 0 rfl) ?_
      refine va_iald hx hb hK hP 2 0 rfl rfl (vi_c (by decide)) dX0_step_48 ?_
      refine lv_iload_n hx hb dX0_step_49 rfl (lv_at hl 3 rfl) ?_
      refine lv_isub hx hb dX0_step_50 ?_
      refine va_iast hx hb hK hP hD hS 2 0 rfl rfl (vi_c (by decide)) dX0_step_51 (fun H4 locs hP hD hS => ?_)
      obtain ⟨u3, eu3⟩ : ∃ y : XS, y = xF_ u (upd (xF u) (Int32.toNatClampNeg 0) ((xF u (Int32.toNatClampNeg 0)) - a1)) := ⟨_, rfl⟩
      have hP : va_P D vwCl (wX cI cZ h u3) H4 := by rw [eu3]; exact hP
      have hD : va_D A (wX cI cZ h u3) := by rw [eu3]; exact hD
      have hIu3 : InvX u3 := by rw [eu3]; exact InvX.sF hI _
      refine lv_aload_n hx hb dX0_step_52 rfl (lv_at hl 2 rfl) ?_
      refine va_get (D := D) (ci := 0) (v := .ref (h 2)) (C := RX0) (T := TX0) (N := 12) hx hb hts hin hown hK hP 0 rfl rfl 1 (by decide) (hts (.fieldLink RX0 13 "ModeDesk" "flashing" "[I") (by decide +kernel)) (fun _ h9 => h9) rfl dX0_step_53 ?_
      refine lv_iload_n hx hb dX0_step_56 rfl (lv_at hl 0 rfl) ?_
      refine va_iald hx hb hK hP 2 0 rfl rfl (vi_c (by decide)) dX0_step_57 ?_
      refine lv_if_le (tgt := 64) hx hb dX0_step_58 (by decide) (fun c5 => ?_) (fun c5 => ?_)
      · refine lv_iinc (v := 1) (lv' := [(3, .int 1), (2, .int 0), (0, .ref (h 0)), (1, .int a1)]) hx hb dX0_step_64 hl (k := 0) rfl (by decide) (by decide) rfl (fun ls hl => ?_)
        refine lv_goto (tgt := 19) hx hb dX0_step_67 (by decide) ?_
        refine lv_iload_n hx hb dX0_step_19 rfl (lv_at hl 0 rfl) ?_
        refine lv_iconst (v := 1) hx hb dX0_step_20 (by decide) ?_
        refine lv_icmp_gt (tgt := 70) hx hb dX0_step_21 (by decide) (fun c9 => absurd c9 (by decide)) (fun _ => ?_)
        refine lv_aload_n hx hb dX0_step_24 rfl (lv_at hl 2 rfl) ?_
        refine va_get (D := D) (ci := 0) (v := .ref (h 2)) (C := RX0) (T := TX0) (N := 12) hx hb hts hin hown hK hP 0 rfl rfl 1 (by decide) (hts (.fieldLink RX0 13 "ModeDesk" "flashing" "[I") (by decide +kernel)) (fun _ h9 => h9) rfl dX0_step_25 ?_
        refine lv_iload_n hx hb dX0_step_28 rfl (lv_at hl 0 rfl) ?_
        refine lv_iload_n hx hb dX0_step_29 rfl (lv_at hl 3 rfl) ?_
        refine lv_aload_n hx hb dX0_step_30 rfl (lv_at hl 2 rfl) ?_
        refine va_get (D := D) (ci := 0) (v := .ref (h 2)) (C := RX0) (T := TX0) (N := 12) hx hb hts hin hown hK hP 0 rfl rfl 1 (by decide) (hts (.fieldLink RX0 13 "ModeDesk" "flashing" "[I") (by decide +kernel)) (fun _ h9 => h9) rfl dX0_step_31 ?_
        refine lv_iload_n hx hb dX0_step_34 rfl (lv_at hl 0 rfl) ?_
        refine va_iald hx hb hK hP 2 0 rfl rfl (vi_c (by decide)) dX0_step_35 ?_
        refine lv_icmp_lt (tgt := 43) hx hb dX0_step_36 (by decide) (fun c6 => ?_) (fun c6 => ?_)
        · refine lv_aload_n hx hb dX0_step_43 rfl (lv_at hl 2 rfl) ?_
          refine va_get (D := D) (ci := 0) (v := .ref (h 2)) (C := RX0) (T := TX0) (N := 12) hx hb hts hin hown hK hP 0 rfl rfl 1 (by decide) (hts (.fieldLink RX0 13 "ModeDesk" "flashing" "[I") (by decide +kernel)) (fun _ h9 => h9) rfl dX0_step_44 ?_
          refine lv_iload_n hx hb dX0_step_47 rfl (lv_at hl 0 rfl) ?_
          refine va_iald hx hb hK hP 2 0 rfl rfl (vi_c (by decide)) dX0_step_48 ?_
          refine lv_iload_n hx hb dX0_step_49 rfl (lv_at hl 3 rfl) ?_
          refine lv_isub hx hb dX0_step_50 ?_
          refine va_iast hx hb hK hP hD hS 2 0 rfl rfl (vi_c (by decide)) dX0_step_51 (fun H8 locs hP hD hS => ?_)
          obtain ⟨u7, eu7⟩ : ∃ y : XS, y = xF_ u3 (upd (xF u3) (Int32.toNatClampNeg 1) ((xF u3 (Int32.toNatClampNeg 1)) - a1)) := ⟨_, rfl⟩
          have hP : va_P D vwCl (wX cI cZ h u7) H8 := by rw [eu7]; exact hP
          have hD : va_D A (wX cI cZ h u7) := by rw [eu7]; exact hD
          have hIu7 : InvX u7 := by rw [eu7]; exact InvX.sF hIu3 _
          refine lv_aload_n hx hb dX0_step_52 rfl (lv_at hl 2 rfl) ?_
          refine va_get (D := D) (ci := 0) (v := .ref (h 2)) (C := RX0) (T := TX0) (N := 12) hx hb hts hin hown hK hP 0 rfl rfl 1 (by decide) (hts (.fieldLink RX0 13 "ModeDesk" "flashing" "[I") (by decide +kernel)) (fun _ h9 => h9) rfl dX0_step_53 ?_
          refine lv_iload_n hx hb dX0_step_56 rfl (lv_at hl 0 rfl) ?_
          refine va_iald hx hb hK hP 2 0 rfl rfl (vi_c (by decide)) dX0_step_57 ?_
          refine lv_if_le (tgt := 64) hx hb dX0_step_58 (by decide) (fun c9 => ?_) (fun c9 => ?_)
          · refine lv_iinc (v := 2) (lv' := [(3, .int 2), (2, .int 0), (0, .ref (h 0)), (1, .int a1)]) hx hb dX0_step_64 hl (k := 0) rfl (by decide) (by decide) rfl (fun ls hl => ?_)
            refine lv_goto (tgt := 19) hx hb dX0_step_67 (by decide) ?_
            refine lv_iload_n hx hb dX0_step_19 rfl (lv_at hl 0 rfl) ?_
            refine lv_iconst (v := 1) hx hb dX0_step_20 (by decide) ?_
            refine lv_icmp_gt (tgt := 70) hx hb dX0_step_21 (by decide) (fun _ => ?_) (fun c9 => absurd (by decide) c9)
            refine lv_iload_n hx hb dX0_step_70 rfl (lv_at hl 1 rfl) ?_
            have hq1 : pX0_step u a1 = some (0, u7) := (by subst eu7; subst eu3; unfold pX0_step; first | (rw [if_pos c1, if_pos c2, if_pos c5, if_pos c6, if_pos c9]; done) | (rw [if_pos c1, if_pos c2, if_pos c5, if_pos c6, if_pos c9]; rfl))
            exact vx_ret (W.widen (k := 1) (n := 6) (Nat.le_of_ble_eq_true rfl) (Nat.le_of_ble_eq_true rfl) (W.iret (v := 0) hx hb hr (fun t ht hW => ⟨⟨0, u7, rfl, ⟨hq1.symm, hIu7⟩, by rw [ht]; exact hP, va_K.moved hW.alike hK, hD⟩, hS.F ht⟩) hS.2.2 dX0_step_71))
          · refine lv_iinc (v := 1) (lv' := [(2, .int 1), (3, .int 1), (0, .ref (h 0)), (1, .int a1)]) hx hb dX0_step_61 hl (k := 1) rfl (by decide) (by decide) rfl (fun ls hl => ?_)
            refine lv_iinc (v := 2) (lv' := [(3, .int 2), (2, .int 1), (0, .ref (h 0)), (1, .int a1)]) hx hb dX0_step_64 hl (k := 1) rfl (by decide) (by decide) rfl (fun ls hl => ?_)
            refine lv_goto (tgt := 19) hx hb dX0_step_67 (by decide) ?_
            refine lv_iload_n hx hb dX0_step_19 rfl (lv_at hl 0 rfl) ?_
            refine lv_iconst (v := 1) hx hb dX0_step_20 (by decide) ?_
            refine lv_icmp_gt (tgt := 70) hx hb dX0_step_21 (by decide) (fun _ => ?_) (fun c9 => absurd (by decide) c9)
            refine lv_iload_n hx hb dX0_step_70 rfl (lv_at hl 1 rfl) ?_
            have hq1 : pX0_step u a1 = some (1, u7) := (by subst eu7; subst eu3; unfold pX0_step; first | (rw [if_pos c1, if_pos c2, if_pos c5, if_pos c6, if_neg c9]; done) | (rw [if_pos c1, if_pos c2, if_pos c5, if_pos c6, if_neg c9]; rfl))
            exact vx_ret (W.widen (k := 1) (n := 6) (Nat.le_of_ble_eq_true rfl) (Nat.le_of_ble_eq_true rfl) (W.iret (v := 1) hx hb hr (fun t ht hW => ⟨⟨1, u7, rfl, ⟨hq1.symm, hIu7⟩, by rw [ht]; exact hP, va_K.moved hW.alike hK, hD⟩, hS.F ht⟩) hS.2.2 dX0_step_71))
        · refine lv_iconst (v := 0) hx hb dX0_step_39 (by decide) ?_
          refine lv_goto (tgt := 51) hx hb dX0_step_40 (by decide) ?_
          refine va_iast hx hb hK hP hD hS 2 0 rfl rfl (vi_c (by decide)) dX0_step_51 (fun H11 locs hP hD hS => ?_)
          obtain ⟨u10, eu10⟩ : ∃ y : XS, y = xF_ u3 (upd (xF u3) (Int32.toNatClampNeg 1) 0) := ⟨_, rfl⟩
          have hP : va_P D vwCl (wX cI cZ h u10) H11 := by rw [eu10]; exact hP
          have hD : va_D A (wX cI cZ h u10) := by rw [eu10]; exact hD
          have hIu10 : InvX u10 := by rw [eu10]; exact InvX.sF hIu3 _
          refine lv_aload_n hx hb dX0_step_52 rfl (lv_at hl 2 rfl) ?_
          refine va_get (D := D) (ci := 0) (v := .ref (h 2)) (C := RX0) (T := TX0) (N := 12) hx hb hts hin hown hK hP 0 rfl rfl 1 (by decide) (hts (.fieldLink RX0 13 "ModeDesk" "flashing" "[I") (by decide +kernel)) (fun _ h9 => h9) rfl dX0_step_53 ?_
          refine lv_iload_n hx hb dX0_step_56 rfl (lv_at hl 0 rfl) ?_
          refine va_iald hx hb hK hP 2 0 rfl rfl (vi_c (by decide)) dX0_step_57 ?_
          refine lv_if_le (tgt := 64) hx hb dX0_step_58 (by decide) (fun c12 => ?_) (fun c12 => ?_)
          · refine lv_iinc (v := 2) (lv' := [(3, .int 2), (2, .int 0), (0, .ref (h 0)), (1, .int a1)]) hx hb dX0_step_64 hl (k := 0) rfl (by decide) (by decide) rfl (fun ls hl => ?_)
            refine lv_goto (tgt := 19) hx hb dX0_step_67 (by decide) ?_
            refine lv_iload_n hx hb dX0_step_19 rfl (lv_at hl 0 rfl) ?_
            refine lv_iconst (v := 1) hx hb dX0_step_20 (by decide) ?_
            refine lv_icmp_gt (tgt := 70) hx hb dX0_step_21 (by decide) (fun _ => ?_) (fun c9 => absurd (by decide) c9)
            refine lv_iload_n hx hb dX0_step_70 rfl (lv_at hl 1 rfl) ?_
            have hq1 : pX0_step u a1 = some (0, u10) := (by subst eu10; subst eu3; unfold pX0_step; first | (rw [if_pos c1, if_pos c2, if_pos c5, if_neg c6, if_pos c12]; done) | (rw [if_pos c1, if_pos c2, if_pos c5, if_neg c6, if_pos c12]; rfl))
            exact vx_ret (W.widen (k := 1) (n := 6) (Nat.le_of_ble_eq_true rfl) (Nat.le_of_ble_eq_true rfl) (W.iret (v := 0) hx hb hr (fun t ht hW => ⟨⟨0, u10, rfl, ⟨hq1.symm, hIu10⟩, by rw [ht]; exact hP, va_K.moved hW.alike hK, hD⟩, hS.F ht⟩) hS.2.2 dX0_step_71))
          · refine lv_iinc (v := 1) (lv' := [(2, .int 1), (3, .int 1), (0, .ref (h 0)), (1, .int a1)]) hx hb dX0_step_61 hl (k := 1) rfl (by decide) (by decide) rfl (fun ls hl => ?_)
            refine lv_iinc (v := 2) (lv' := [(3, .int 2), (2, .int 1), (0, .ref (h 0)), (1, .int a1)]) hx hb dX0_step_64 hl (k := 1) rfl (by decide) (by decide) rfl (fun ls hl => ?_)
            refine lv_goto (tgt := 19) hx hb dX0_step_67 (by decide) ?_
            refine lv_iload_n hx hb dX0_step_19 rfl (lv_at hl 0 rfl) ?_
            refine lv_iconst (v := 1) hx hb dX0_step_20 (by decide) ?_
            refine lv_icmp_gt (tgt := 70) hx hb dX0_step_21 (by decide) (fun _ => ?_) (fun c9 => absurd (by decide) c9)
            refine lv_iload_n hx hb dX0_step_70 rfl (lv_at hl 1 rfl) ?_
            have hq1 : pX0_step u a1 = some (1, u10) := (by subst eu10; subst eu3; unfold pX0_step; first | (rw [if_pos c1, if_pos c2, if_pos c5, if_neg c6, if_neg c12]; done) | (rw [if_pos c1, if_pos c2, if_pos c5, if_neg c6, if_neg c12]; rfl))
            exact vx_ret (W.widen (k := 1) (n := 6) (Nat.le_of_ble_eq_true rfl) (Nat.le_of_ble_eq_true rfl) (W.iret (v := 1) hx hb hr (fun t ht hW => ⟨⟨1, u10, rfl, ⟨hq1.symm, hIu10⟩, by rw [ht]; exact hP, va_K.moved hW.alike hK, hD⟩, hS.F ht⟩) hS.2.2 dX0_step_71))
      · refine lv_iinc (v := 1) (lv' := [(2, .int 1), (3, .int 0), (0, .ref (h 0)), (1, .int a1)]) hx hb dX0_step_61 hl (k := 1) rfl (by decide) (by decide) rfl (fun ls hl => ?_)
        refine lv_iinc (v := 1) (lv' := [(3, .int 1), (2, .int 1), (0, .ref (h 0)), (1, .int a1)]) hx hb dX0_step_64 hl (k := 1) rfl (by decide) (by decide) rfl (fun ls hl => ?_)
        refine lv_goto (tgt := 19) hx hb dX0_step_67 (by decide) ?_
        refine lv_iload_n hx hb dX0_step_19 rfl (lv_at hl 0 rfl) ?_
        refine lv_iconst (v := 1) hx hb dX0_step_20 (by decide) ?_
        refine lv_icmp_gt (tgt := 70) hx hb dX0_step_21 (by decide) (fun c9 => absurd c9 (by decide)) (fun _ => ?_)
        refine lv_aload_n hx hb dX0_step_24 rfl (lv_at hl 2 rfl) ?_
        refine va_get (D := D) (ci := 0) (v := .ref (h 2)) (C := RX0) (T := TX0) (N := 12) hx hb hts hin hown hK hP 0 rfl rfl 1 (by decide) (hts (.fieldLink RX0 13 "ModeDesk" "flashing" "[I") (by decide +kernel)) (fun _ h9 => h9) rfl dX0_step_25 ?_
        refine lv_iload_n hx hb dX0_step_28 rfl (lv_at hl 0 rfl) ?_
        refine lv_iload_n hx hb dX0_step_29 rfl (lv_at hl 3 rfl) ?_
        refine lv_aload_n hx hb dX0_step_30 rfl (lv_at hl 2 rfl) ?_
        refine va_get (D := D) (ci := 0) (v := .ref (h 2)) (C := RX0) (T := TX0) (N := 12) hx hb hts hin hown hK hP 0 rfl rfl 1 (by decide) (hts (.fieldLink RX0 13 "ModeDesk" "flashing" "[I") (by decide +kernel)) (fun _ h9 => h9) rfl dX0_step_31 ?_
        refine lv_iload_n hx hb dX0_step_34 rfl (lv_at hl 0 rfl) ?_
        refine va_iald hx hb hK hP 2 0 rfl rfl (vi_c (by decide)) dX0_step_35 ?_
        refine lv_icmp_lt (tgt := 43) hx hb dX0_step_36 (by decide) (fun c13 => ?_) (fun c13 => ?_)
        · refine lv_aload_n hx hb dX0_step_43 rfl (lv_at hl 2 rfl) ?_
          refine va_get (D := D) (ci := 0) (v := .ref (h 2)) (C := RX0) (T := TX0) (N := 12) hx hb hts hin hown hK hP 0 rfl rfl 1 (by decide) (hts (.fieldLink RX0 13 "ModeDesk" "flashing" "[I") (by decide +kernel)) (fun _ h9 => h9) rfl dX0_step_44 ?_
          refine lv_iload_n hx hb dX0_step_47 rfl (lv_at hl 0 rfl) ?_
          refine va_iald hx hb hK hP 2 0 rfl rfl (vi_c (by decide)) dX0_step_48 ?_
          refine lv_iload_n hx hb dX0_step_49 rfl (lv_at hl 3 rfl) ?_
          refine lv_isub hx hb dX0_step_50 ?_
          refine va_iast hx hb hK hP hD hS 2 0 rfl rfl (vi_c (by decide)) dX0_step_51 (fun H15 locs hP hD hS => ?_)
          obtain ⟨u14, eu14⟩ : ∃ y : XS, y = xF_ u3 (upd (xF u3) (Int32.toNatClampNeg 1) ((xF u3 (Int32.toNatClampNeg 1)) - a1)) := ⟨_, rfl⟩
          have hP : va_P D vwCl (wX cI cZ h u14) H15 := by rw [eu14]; exact hP
          have hD : va_D A (wX cI cZ h u14) := by rw [eu14]; exact hD
          have hIu14 : InvX u14 := by rw [eu14]; exact InvX.sF hIu3 _
          refine lv_aload_n hx hb dX0_step_52 rfl (lv_at hl 2 rfl) ?_
          refine va_get (D := D) (ci := 0) (v := .ref (h 2)) (C := RX0) (T := TX0) (N := 12) hx hb hts hin hown hK hP 0 rfl rfl 1 (by decide) (hts (.fieldLink RX0 13 "ModeDesk" "flashing" "[I") (by decide +kernel)) (fun _ h9 => h9) rfl dX0_step_53 ?_
          refine lv_iload_n hx hb dX0_step_56 rfl (lv_at hl 0 rfl) ?_
          refine va_iald hx hb hK hP 2 0 rfl rfl (vi_c (by decide)) dX0_step_57 ?_
          refine lv_if_le (tgt := 64) hx hb dX0_step_58 (by decide) (fun c16 => ?_) (fun c16 => ?_)
          · refine lv_iinc (v := 2) (lv' := [(3, .int 2), (2, .int 1), (0, .ref (h 0)), (1, .int a1)]) hx hb dX0_step_64 hl (k := 0) rfl (by decide) (by decide) rfl (fun ls hl => ?_)
            refine lv_goto (tgt := 19) hx hb dX0_step_67 (by decide) ?_
            refine lv_iload_n hx hb dX0_step_19 rfl (lv_at hl 0 rfl) ?_
            refine lv_iconst (v := 1) hx hb dX0_step_20 (by decide) ?_
            refine lv_icmp_gt (tgt := 70) hx hb dX0_step_21 (by decide) (fun _ => ?_) (fun c9 => absurd (by decide) c9)
            refine lv_iload_n hx hb dX0_step_70 rfl (lv_at hl 1 rfl) ?_
            have hq1 : pX0_step u a1 = some (1, u14) := (by subst eu14; subst eu3; unfold pX0_step; first | (rw [if_pos c1, if_pos c2, if_neg c5, if_pos c13, if_pos c16]; done) | (rw [if_pos c1, if_pos c2, if_neg c5, if_pos c13, if_pos c16]; rfl))
            exact vx_ret (W.widen (k := 1) (n := 6) (Nat.le_of_ble_eq_true rfl) (Nat.le_of_ble_eq_true rfl) (W.iret (v := 1) hx hb hr (fun t ht hW => ⟨⟨1, u14, rfl, ⟨hq1.symm, hIu14⟩, by rw [ht]; exact hP, va_K.moved hW.alike hK, hD⟩, hS.F ht⟩) hS.2.2 dX0_step_71))
          · refine lv_iinc (v := 2) (lv' := [(2, .int 2), (3, .int 1), (0, .ref (h 0)), (1, .int a1)]) hx hb dX0_step_61 hl (k := 1) rfl (by decide) (by decide) rfl (fun ls hl => ?_)
            refine lv_iinc (v := 2) (lv' := [(3, .int 2), (2, .int 2), (0, .ref (h 0)), (1, .int a1)]) hx hb dX0_step_64 hl (k := 1) rfl (by decide) (by decide) rfl (fun ls hl => ?_)
            refine lv_goto (tgt := 19) hx hb dX0_step_67 (by decide) ?_
            refine lv_iload_n hx hb dX0_step_19 rfl (lv_at hl 0 rfl) ?_
            refine lv_iconst (v := 1) hx hb dX0_step_20 (by decide) ?_
            refine lv_icmp_gt (tgt := 70) hx hb dX0_step_21 (by decide) (fun _ => ?_) (fun c9 => absurd (by decide) c9)
            refine lv_iload_n hx hb dX0_step_70 rfl (lv_at hl 1 rfl) ?_
            have hq1 : pX0_step u a1 = some (2, u14) := (by subst eu14; subst eu3; unfold pX0_step; first | (rw [if_pos c1, if_pos c2, if_neg c5, if_pos c13, if_neg c16]; done) | (rw [if_pos c1, if_pos c2, if_neg c5, if_pos c13, if_neg c16]; rfl))
            exact vx_ret (W.widen (k := 1) (n := 6) (Nat.le_of_ble_eq_true rfl) (Nat.le_of_ble_eq_true rfl) (W.iret (v := 2) hx hb hr (fun t ht hW => ⟨⟨2, u14, rfl, ⟨hq1.symm, hIu14⟩, by rw [ht]; exact hP, va_K.moved hW.alike hK, hD⟩, hS.F ht⟩) hS.2.2 dX0_step_71))
        · refine lv_iconst (v := 0) hx hb dX0_step_39 (by decide) ?_
          refine lv_goto (tgt := 51) hx hb dX0_step_40 (by decide) ?_
          refine va_iast hx hb hK hP hD hS 2 0 rfl rfl (vi_c (by decide)) dX0_step_51 (fun H18 locs hP hD hS => ?_)
          obtain ⟨u17, eu17⟩ : ∃ y : XS, y = xF_ u3 (upd (xF u3) (Int32.toNatClampNeg 1) 0) := ⟨_, rfl⟩
          have hP : va_P D vwCl (wX cI cZ h u17) H18 := by rw [eu17]; exact hP
          have hD : va_D A (wX cI cZ h u17) := by rw [eu17]; exact hD
          have hIu17 : InvX u17 := by rw [eu17]; exact InvX.sF hIu3 _
          refine lv_aload_n hx hb dX0_step_52 rfl (lv_at hl 2 rfl) ?_
          refine va_get (D := D) (ci := 0) (v := .ref (h 2)) (C := RX0) (T := TX0) (N := 12) hx hb hts hin hown hK hP 0 rfl rfl 1 (by decide) (hts (.fieldLink RX0 13 "ModeDesk" "flashing" "[I") (by decide +kernel)) (fun _ h9 => h9) rfl dX0_step_53 ?_
          refine lv_iload_n hx hb dX0_step_56 rfl (lv_at hl 0 rfl) ?_
          refine va_iald hx hb hK hP 2 0 rfl rfl (vi_c (by decide)) dX0_step_57 ?_
          refine lv_if_le (tgt := 64) hx hb dX0_step_58 (by decide) (fun c19 => ?_) (fun c19 => ?_)
          · refine lv_iinc (v := 2) (lv' := [(3, .int 2), (2, .int 1), (0, .ref (h 0)), (1, .int a1)]) hx hb dX0_step_64 hl (k := 0) rfl (by decide) (by decide) rfl (fun ls hl => ?_)
            refine lv_goto (tgt := 19) hx hb dX0_step_67 (by decide) ?_
            refine lv_iload_n hx hb dX0_step_19 rfl (lv_at hl 0 rfl) ?_
            refine lv_iconst (v := 1) hx hb dX0_step_20 (by decide) ?_
            refine lv_icmp_gt (tgt := 70) hx hb dX0_step_21 (by decide) (fun _ => ?_) (fun c9 => absurd (by decide) c9)
            refine lv_iload_n hx hb dX0_step_70 rfl (lv_at hl 1 rfl) ?_
            have hq1 : pX0_step u a1 = some (1, u17) := (by subst eu17; subst eu3; unfold pX0_step; first | (rw [if_pos c1, if_pos c2, if_neg c5, if_neg c13, if_pos c19]; done) | (rw [if_pos c1, if_pos c2, if_neg c5, if_neg c13, if_pos c19]; rfl))
            exact vx_ret (W.widen (k := 1) (n := 6) (Nat.le_of_ble_eq_true rfl) (Nat.le_of_ble_eq_true rfl) (W.iret (v := 1) hx hb hr (fun t ht hW => ⟨⟨1, u17, rfl, ⟨hq1.symm, hIu17⟩, by rw [ht]; exact hP, va_K.moved hW.alike hK, hD⟩, hS.F ht⟩) hS.2.2 dX0_step_71))
          · refine lv_iinc (v := 2) (lv' := [(2, .int 2), (3, .int 1), (0, .ref (h 0)), (1, .int a1)]) hx hb dX0_step_61 hl (k := 1) rfl (by decide) (by decide) rfl (fun ls hl => ?_)
            refine lv_iinc (v := 2) (lv' := [(3, .int 2), (2, .int 2), (0, .ref (h 0)), (1, .int a1)]) hx hb dX0_step_64 hl (k := 1) rfl (by decide) (by decide) rfl (fun ls hl => ?_)
            refine lv_goto (tgt := 19) hx hb dX0_step_67 (by decide) ?_
            refine lv_iload_n hx hb dX0_step_19 rfl (lv_at hl 0 rfl) ?_
            refine lv_iconst (v := 1) hx hb dX0_step_20 (by decide) ?_
            refine lv_icmp_gt (tgt := 70) hx hb dX0_step_21 (by decide) (fun _ => ?_) (fun c9 => absurd (by decide) c9)
            refine lv_iload_n hx hb dX0_step_70 rfl (lv_at hl 1 rfl) ?_
            have hq1 : pX0_step u a1 = some (2, u17) := (by subst eu17; subst eu3; unfold pX0_step; first | (rw [if_pos c1, if_pos c2, if_neg c5, if_neg c13, if_neg c19]; done) | (rw [if_pos c1, if_pos c2, if_neg c5, if_neg c13, if_neg c19]; rfl))
            exact vx_ret (W.widen (k := 1) (n := 6) (Nat.le_of_ble_eq_true rfl) (Nat.le_of_ble_eq_true rfl) (W.iret (v := 2) hx hb hr (fun t ht hW => ⟨⟨2, u17, rfl, ⟨hq1.symm, hIu17⟩, by rw [ht]; exact hP, va_K.moved hW.alike hK, hD⟩, hS.F ht⟩) hS.2.2 dX0_step_71))
    · refine lv_iconst (v := 0) hx hb dX0_step_39 (by decide) ?_
      refine lv_goto (tgt := 51) hx hb dX0_step_40 (by decide) ?_
      refine va_iast hx hb hK hP hD hS 2 0 rfl rfl (vi_c (by decide)) dX0_step_51 (fun H21 locs hP hD hS => ?_)
      obtain ⟨u20, eu20⟩ : ∃ y : XS, y = xF_ u (upd (xF u) (Int32.toNatClampNeg 0) 0) := ⟨_, rfl⟩
      have hP : va_P D vwCl (wX cI cZ h u20) H21 := by rw [eu20]; exact hP
      have hD : va_D A (wX cI cZ h u20) := by rw [eu20]; exact hD
      have hIu20 : InvX u20 := by rw [eu20]; exact InvX.sF hI _
      refine lv_aload_n hx hb dX0_step_52 rfl (lv_at hl 2 rfl) ?_
      refine va_get (D := D) (ci := 0) (v := .ref (h 2)) (C := RX0) (T := TX0) (N := 12) hx hb hts hin hown hK hP 0 rfl rfl 1 (by decide) (hts (.fieldLink RX0 13 "ModeDesk" "flashing" "[I") (by decide +kernel)) (fun _ h9 => h9) rfl dX0_step_53 ?_
      refine lv_iload_n hx hb dX0_step_56 rfl (lv_at hl 0 rfl) ?_
      refine va_iald hx hb hK hP 2 0 rfl rfl (vi_c (by decide)) dX0_step_57 ?_
      refine lv_if_le (tgt := 64) hx hb dX0_step_58 (by decide) (fun c22 => ?_) (fun c22 => ?_)
      · refine lv_iinc (v := 1) (lv' := [(3, .int 1), (2, .int 0), (0, .ref (h 0)), (1, .int a1)]) hx hb dX0_step_64 hl (k := 0) rfl (by decide) (by decide) rfl (fun ls hl => ?_)
        refine lv_goto (tgt := 19) hx hb dX0_step_67 (by decide) ?_
        refine lv_iload_n hx hb dX0_step_19 rfl (lv_at hl 0 rfl) ?_
        refine lv_iconst (v := 1) hx hb dX0_step_20 (by decide) ?_
        refine lv_icmp_gt (tgt := 70) hx hb dX0_step_21 (by decide) (fun c9 => absurd c9 (by decide)) (fun _ => ?_)
        refine lv_aload_n hx hb dX0_step_24 rfl (lv_at hl 2 rfl) ?_
        refine va_get (D := D) (ci := 0) (v := .ref (h 2)) (C := RX0) (T := TX0) (N := 12) hx hb hts hin hown hK hP 0 rfl rfl 1 (by decide) (hts (.fieldLink RX0 13 "ModeDesk" "flashing" "[I") (by decide +kernel)) (fun _ h9 => h9) rfl dX0_step_25 ?_
        refine lv_iload_n hx hb dX0_step_28 rfl (lv_at hl 0 rfl) ?_
        refine lv_iload_n hx hb dX0_step_29 rfl (lv_at hl 3 rfl) ?_
        refine lv_aload_n hx hb dX0_step_30 rfl (lv_at hl 2 rfl) ?_
        refine va_get (D := D) (ci := 0) (v := .ref (h 2)) (C := RX0) (T := TX0) (N := 12) hx hb hts hin hown hK hP 0 rfl rfl 1 (by decide) (hts (.fieldLink RX0 13 "ModeDesk" "flashing" "[I") (by decide +kernel)) (fun _ h9 => h9) rfl dX0_step_31 ?_
        refine lv_iload_n hx hb dX0_step_34 rfl (lv_at hl 0 rfl) ?_
        refine va_iald hx hb hK hP 2 0 rfl rfl (vi_c (by decide)) dX0_step_35 ?_
        refine lv_icmp_lt (tgt := 43) hx hb dX0_step_36 (by decide) (fun c23 => ?_) (fun c23 => ?_)
        · refine lv_aload_n hx hb dX0_step_43 rfl (lv_at hl 2 rfl) ?_
          refine va_get (D := D) (ci := 0) (v := .ref (h 2)) (C := RX0) (T := TX0) (N := 12) hx hb hts hin hown hK hP 0 rfl rfl 1 (by decide) (hts (.fieldLink RX0 13 "ModeDesk" "flashing" "[I") (by decide +kernel)) (fun _ h9 => h9) rfl dX0_step_44 ?_
          refine lv_iload_n hx hb dX0_step_47 rfl (lv_at hl 0 rfl) ?_
          refine va_iald hx hb hK hP 2 0 rfl rfl (vi_c (by decide)) dX0_step_48 ?_
          refine lv_iload_n hx hb dX0_step_49 rfl (lv_at hl 3 rfl) ?_
          refine lv_isub hx hb dX0_step_50 ?_
          refine va_iast hx hb hK hP hD hS 2 0 rfl rfl (vi_c (by decide)) dX0_step_51 (fun H25 locs hP hD hS => ?_)
          obtain ⟨u24, eu24⟩ : ∃ y : XS, y = xF_ u20 (upd (xF u20) (Int32.toNatClampNeg 1) ((xF u20 (Int32.toNatClampNeg 1)) - a1)) := ⟨_, rfl⟩
          have hP : va_P D vwCl (wX cI cZ h u24) H25 := by rw [eu24]; exact hP
          have hD : va_D A (wX cI cZ h u24) := by rw [eu24]; exact hD
          have hIu24 : InvX u24 := by rw [eu24]; exact InvX.sF hIu20 _
          refine lv_aload_n hx hb dX0_step_52 rfl (lv_at hl 2 rfl) ?_
          refine va_get (D := D) (ci := 0) (v := .ref (h 2)) (C := RX0) (T := TX0) (N := 12) hx hb hts hin hown hK hP 0 rfl rfl 1 (by decide) (hts (.fieldLink RX0 13 "ModeDesk" "flashing" "[I") (by decide +kernel)) (fun _ h9 => h9) rfl dX0_step_53 ?_
          refine lv_iload_n hx hb dX0_step_56 rfl (lv_at hl 0 rfl) ?_
          refine va_iald hx hb hK hP 2 0 rfl rfl (vi_c (by decide)) dX0_step_57 ?_
          refine lv_if_le (tgt := 64) hx hb dX0_step_58 (by decide) (fun c26 => ?_) (fun c26 => ?_)
          · refine lv_iinc (v := 2) (lv' := [(3, .int 2), (2, .int 0), (0, .ref (h 0)), (1, .int a1)]) hx hb dX0_step_64 hl (k := 0) rfl (by decide) (by decide) rfl (fun ls hl => ?_)
            refine lv_goto (tgt := 19) hx hb dX0_step_67 (by decide) ?_
            refine lv_iload_n hx hb dX0_step_19 rfl (lv_at hl 0 rfl) ?_
            refine lv_iconst (v := 1) hx hb dX0_step_20 (by decide) ?_
            refine lv_icmp_gt (tgt := 70) hx hb dX0_step_21 (by decide) (fun _ => ?_) (fun c9 => absurd (by decide) c9)
            refine lv_iload_n hx hb dX0_step_70 rfl (lv_at hl 1 rfl) ?_
            have hq1 : pX0_step u a1 = some (0, u24) := (by subst eu24; subst eu20; unfold pX0_step; first | (rw [if_pos c1, if_neg c2, if_pos c22, if_pos c23, if_pos c26]; done) | (rw [if_pos c1, if_neg c2, if_pos c22, if_pos c23, if_pos c26]; rfl))
            exact vx_ret (W.widen (k := 1) (n := 6) (Nat.le_of_ble_eq_true rfl) (Nat.le_of_ble_eq_true rfl) (W.iret (v := 0) hx hb hr (fun t ht hW => ⟨⟨0, u24, rfl, ⟨hq1.symm, hIu24⟩, by rw [ht]; exact hP, va_K.moved hW.alike hK, hD⟩, hS.F ht⟩) hS.2.2 dX0_step_71))
          · refine lv_iinc (v := 1) (lv' := [(2, .int 1), (3, .int 1), (0, .ref (h 0)), (1, .int a1)]) hx hb dX0_step_61 hl (k := 1) rfl (by decide) (by decide) rfl (fun ls hl => ?_)
            refine lv_iinc (v := 2) (lv' := [(3, .int 2), (2, .int 1), (0, .ref (h 0)), (1, .int a1)]) hx hb dX0_step_64 hl (k := 1) rfl (by decide) (by decide) rfl (fun ls hl => ?_)
            refine lv_goto (tgt := 19) hx hb dX0_step_67 (by decide) ?_
            refine lv_iload_n hx hb dX0_step_19 rfl (lv_at hl 0 rfl) ?_
            refine lv_iconst (v := 1) hx hb dX0_step_20 (by decide) ?_
            refine lv_icmp_gt (tgt := 70) hx hb dX0_step_21 (by decide) (fun _ => ?_) (fun c9 => absurd (by decide) c9)
            refine lv_iload_n hx hb dX0_step_70 rfl (lv_at hl 1 rfl) ?_
            have hq1 : pX0_step u a1 = some (1, u24) := (by subst eu24; subst eu20; unfold pX0_step; first | (rw [if_pos c1, if_neg c2, if_pos c22, if_pos c23, if_neg c26]; done) | (rw [if_pos c1, if_neg c2, if_pos c22, if_pos c23, if_neg c26]; rfl))
            exact vx_ret (W.widen (k := 1) (n := 6) (Nat.le_of_ble_eq_true rfl) (Nat.le_of_ble_eq_true rfl) (W.iret (v := 1) hx hb hr (fun t ht hW => ⟨⟨1, u24, rfl, ⟨hq1.symm, hIu24⟩, by rw [ht]; exact hP, va_K.moved hW.alike hK, hD⟩, hS.F ht⟩) hS.2.2 dX0_step_71))
        · refine lv_iconst (v := 0) hx hb dX0_step_39 (by decide) ?_
          refine lv_goto (tgt := 51) hx hb dX0_step_40 (by decide) ?_
          refine va_iast hx hb hK hP hD hS 2 0 rfl rfl (vi_c (by decide)) dX0_step_51 (fun H28 locs hP hD hS => ?_)
          obtain ⟨u27, eu27⟩ : ∃ y : XS, y = xF_ u20 (upd (xF u20) (Int32.toNatClampNeg 1) 0) := ⟨_, rfl⟩
          have hP : va_P D vwCl (wX cI cZ h u27) H28 := by rw [eu27]; exact hP
          have hD : va_D A (wX cI cZ h u27) := by rw [eu27]; exact hD
          have hIu27 : InvX u27 := by rw [eu27]; exact InvX.sF hIu20 _
          refine lv_aload_n hx hb dX0_step_52 rfl (lv_at hl 2 rfl) ?_
          refine va_get (D := D) (ci := 0) (v := .ref (h 2)) (C := RX0) (T := TX0) (N := 12) hx hb hts hin hown hK hP 0 rfl rfl 1 (by decide) (hts (.fieldLink RX0 13 "ModeDesk" "flashing" "[I") (by decide +kernel)) (fun _ h9 => h9) rfl dX0_step_53 ?_
          refine lv_iload_n hx hb dX0_step_56 rfl (lv_at hl 0 rfl) ?_
          refine va_iald hx hb hK hP 2 0 rfl rfl (vi_c (by decide)) dX0_step_57 ?_
          refine lv_if_le (tgt := 64) hx hb dX0_step_58 (by decide) (fun c29 => ?_) (fun c29 => ?_)
          · refine lv_iinc (v := 2) (lv' := [(3, .int 2), (2, .int 0), (0, .ref (h 0)), (1, .int a1)]) hx hb dX0_step_64 hl (k := 0) rfl (by decide) (by decide) rfl (fun ls hl => ?_)
            refine lv_goto (tgt := 19) hx hb dX0_step_67 (by decide) ?_
            refine lv_iload_n hx hb dX0_step_19 rfl (lv_at hl 0 rfl) ?_
            refine lv_iconst (v := 1) hx hb dX0_step_20 (by decide) ?_
            refine lv_icmp_gt (tgt := 70) hx hb dX0_step_21 (by decide) (fun _ => ?_) (fun c9 => absurd (by decide) c9)
            refine lv_iload_n hx hb dX0_step_70 rfl (lv_at hl 1 rfl) ?_
            have hq1 : pX0_step u a1 = some (0, u27) := (by subst eu27; subst eu20; unfold pX0_step; first | (rw [if_pos c1, if_neg c2, if_pos c22, if_neg c23, if_pos c29]; done) | (rw [if_pos c1, if_neg c2, if_pos c22, if_neg c23, if_pos c29]; rfl))
            exact vx_ret (W.widen (k := 1) (n := 6) (Nat.le_of_ble_eq_true rfl) (Nat.le_of_ble_eq_true rfl) (W.iret (v := 0) hx hb hr (fun t ht hW => ⟨⟨0, u27, rfl, ⟨hq1.symm, hIu27⟩, by rw [ht]; exact hP, va_K.moved hW.alike hK, hD⟩, hS.F ht⟩) hS.2.2 dX0_step_71))
          · refine lv_iinc (v := 1) (lv' := [(2, .int 1), (3, .int 1), (0, .ref (h 0)), (1, .int a1)]) hx hb dX0_step_61 hl (k := 1) rfl (by decide) (by decide) rfl (fun ls hl => ?_)
            refine lv_iinc (v := 2) (lv' := [(3, .int 2), (2, .int 1), (0, .ref (h 0)), (1, .int a1)]) hx hb dX0_step_64 hl (k := 1) rfl (by decide) (by decide) rfl (fun ls hl => ?_)
            refine lv_goto (tgt := 19) hx hb dX0_step_67 (by decide) ?_
            refine lv_iload_n hx hb dX0_step_19 rfl (lv_at hl 0 rfl) ?_
            refine lv_iconst (v := 1) hx hb dX0_step_20 (by decide) ?_
            refine lv_icmp_gt (tgt := 70) hx hb dX0_step_21 (by decide) (fun _ => ?_) (fun c9 => absurd (by decide) c9)
            refine lv_iload_n hx hb dX0_step_70 rfl (lv_at hl 1 rfl) ?_
            have hq1 : pX0_step u a1 = some (1, u27) := (by subst eu27; subst eu20; unfold pX0_step; first | (rw [if_pos c1, if_neg c2, if_pos c22, if_neg c23, if_neg c29]; done) | (rw [if_pos c1, if_neg c2, if_pos c22, if_neg c23, if_neg c29]; rfl))
            exact vx_ret (W.widen (k := 1) (n := 6) (Nat.le_of_ble_eq_true rfl) (Nat.le_of_ble_eq_true rfl) (W.iret (v := 1) hx hb hr (fun t ht hW => ⟨⟨1, u27, rfl, ⟨hq1.symm, hIu27⟩, by rw [ht]; exact hP, va_K.moved hW.alike hK, hD⟩, hS.F ht⟩) hS.2.2 dX0_step_71))
      · refine lv_iinc (v := 1) (lv' := [(2, .int 1), (3, .int 0), (0, .ref (h 0)), (1, .int a1)]) hx hb dX0_step_61 hl (k := 1) rfl (by decide) (by decide) rfl (fun ls hl => ?_)
        refine lv_iinc (v := 1) (lv' := [(3, .int 1), (2, .int 1), (0, .ref (h 0)), (1, .int a1)]) hx hb dX0_step_64 hl (k := 1) rfl (by decide) (by decide) rfl (fun ls hl => ?_)
        refine lv_goto (tgt := 19) hx hb dX0_step_67 (by decide) ?_
        refine lv_iload_n hx hb dX0_step_19 rfl (lv_at hl 0 rfl) ?_
        refine lv_iconst (v := 1) hx hb dX0_step_20 (by decide) ?_
        refine lv_icmp_gt (tgt := 70) hx hb dX0_step_21 (by decide) (fun c9 => absurd c9 (by decide)) (fun _ => ?_)
        refine lv_aload_n hx hb dX0_step_24 rfl (lv_at hl 2 rfl) ?_
        refine va_get (D := D) (ci := 0) (v := .ref (h 2)) (C := RX0) (T := TX0) (N := 12) hx hb hts hin hown hK hP 0 rfl rfl 1 (by decide) (hts (.fieldLink RX0 13 "ModeDesk" "flashing" "[I") (by decide +kernel)) (fun _ h9 => h9) rfl dX0_step_25 ?_
        refine lv_iload_n hx hb dX0_step_28 rfl (lv_at hl 0 rfl) ?_
        refine lv_iload_n hx hb dX0_step_29 rfl (lv_at hl 3 rfl) ?_
        refine lv_aload_n hx hb dX0_step_30 rfl (lv_at hl 2 rfl) ?_
        refine va_get (D := D) (ci := 0) (v := .ref (h 2)) (C := RX0) (T := TX0) (N := 12) hx hb hts hin hown hK hP 0 rfl rfl 1 (by decide) (hts (.fieldLink RX0 13 "ModeDesk" "flashing" "[I") (by decide +kernel)) (fun _ h9 => h9) rfl dX0_step_31 ?_
        refine lv_iload_n hx hb dX0_step_34 rfl (lv_at hl 0 rfl) ?_
        refine va_iald hx hb hK hP 2 0 rfl rfl (vi_c (by decide)) dX0_step_35 ?_
        refine lv_icmp_lt (tgt := 43) hx hb dX0_step_36 (by decide) (fun c30 => ?_) (fun c30 => ?_)
        · refine lv_aload_n hx hb dX0_step_43 rfl (lv_at hl 2 rfl) ?_
          refine va_get (D := D) (ci := 0) (v := .ref (h 2)) (C := RX0) (T := TX0) (N := 12) hx hb hts hin hown hK hP 0 rfl rfl 1 (by decide) (hts (.fieldLink RX0 13 "ModeDesk" "flashing" "[I") (by decide +kernel)) (fun _ h9 => h9) rfl dX0_step_44 ?_
          refine lv_iload_n hx hb dX0_step_47 rfl (lv_at hl 0 rfl) ?_
          refine va_iald hx hb hK hP 2 0 rfl rfl (vi_c (by decide)) dX0_step_48 ?_
          refine lv_iload_n hx hb dX0_step_49 rfl (lv_at hl 3 rfl) ?_
          refine lv_isub hx hb dX0_step_50 ?_
          refine va_iast hx hb hK hP hD hS 2 0 rfl rfl (vi_c (by decide)) dX0_step_51 (fun H32 locs hP hD hS => ?_)
          obtain ⟨u31, eu31⟩ : ∃ y : XS, y = xF_ u20 (upd (xF u20) (Int32.toNatClampNeg 1) ((xF u20 (Int32.toNatClampNeg 1)) - a1)) := ⟨_, rfl⟩
          have hP : va_P D vwCl (wX cI cZ h u31) H32 := by rw [eu31]; exact hP
          have hD : va_D A (wX cI cZ h u31) := by rw [eu31]; exact hD
          have hIu31 : InvX u31 := by rw [eu31]; exact InvX.sF hIu20 _
          refine lv_aload_n hx hb dX0_step_52 rfl (lv_at hl 2 rfl) ?_
          refine va_get (D := D) (ci := 0) (v := .ref (h 2)) (C := RX0) (T := TX0) (N := 12) hx hb hts hin hown hK hP 0 rfl rfl 1 (by decide) (hts (.fieldLink RX0 13 "ModeDesk" "flashing" "[I") (by decide +kernel)) (fun _ h9 => h9) rfl dX0_step_53 ?_
          refine lv_iload_n hx hb dX0_step_56 rfl (lv_at hl 0 rfl) ?_
          refine va_iald hx hb hK hP 2 0 rfl rfl (vi_c (by decide)) dX0_step_57 ?_
          refine lv_if_le (tgt := 64) hx hb dX0_step_58 (by decide) (fun c33 => ?_) (fun c33 => ?_)
          · refine lv_iinc (v := 2) (lv' := [(3, .int 2), (2, .int 1), (0, .ref (h 0)), (1, .int a1)]) hx hb dX0_step_64 hl (k := 0) rfl (by decide) (by decide) rfl (fun ls hl => ?_)
            refine lv_goto (tgt := 19) hx hb dX0_step_67 (by decide) ?_
            refine lv_iload_n hx hb dX0_step_19 rfl (lv_at hl 0 rfl) ?_
            refine lv_iconst (v := 1) hx hb dX0_step_20 (by decide) ?_
            refine lv_icmp_gt (tgt := 70) hx hb dX0_step_21 (by decide) (fun _ => ?_) (fun c9 => absurd (by decide) c9)
            refine lv_iload_n hx hb dX0_step_70 rfl (lv_at hl 1 rfl) ?_
            have hq1 : pX0_step u a1 = some (1, u31) := (by subst eu31; subst eu20; unfold pX0_step; first | (rw [if_pos c1, if_neg c2, if_neg c22, if_pos c30, if_pos c33]; done) | (rw [if_pos c1, if_neg c2, if_neg c22, if_pos c30, if_pos c33]; rfl))
            exact vx_ret (W.widen (k := 1) (n := 6) (Nat.le_of_ble_eq_true rfl) (Nat.le_of_ble_eq_true rfl) (W.iret (v := 1) hx hb hr (fun t ht hW => ⟨⟨1, u31, rfl, ⟨hq1.symm, hIu31⟩, by rw [ht]; exact hP, va_K.moved hW.alike hK, hD⟩, hS.F ht⟩) hS.2.2 dX0_step_71))
          · refine lv_iinc (v := 2) (lv' := [(2, .int 2), (3, .int 1), (0, .ref (h 0)), (1, .int a1)]) hx hb dX0_step_61 hl (k := 1) rfl (by decide) (by decide) rfl (fun ls hl => ?_)
            refine lv_iinc (v := 2) (lv' := [(3, .int 2), (2, .int 2), (0, .ref (h 0)), (1, .int a1)]) hx hb dX0_step_64 hl (k := 1) rfl (by decide) (by decide) rfl (fun ls hl => ?_)
            refine lv_goto (tgt := 19) hx hb dX0_step_67 (by decide) ?_
            refine lv_iload_n hx hb dX0_step_19 rfl (lv_at hl 0 rfl) ?_
            refine lv_iconst (v := 1) hx hb dX0_step_20 (by decide) ?_
            refine lv_icmp_gt (tgt := 70) hx hb dX0_step_21 (by decide) (fun _ => ?_) (fun c9 => absurd (by decide) c9)
            refine lv_iload_n hx hb dX0_step_70 rfl (lv_at hl 1 rfl) ?_
            have hq1 : pX0_step u a1 = some (2, u31) := (by subst eu31; subst eu20; unfold pX0_step; first | (rw [if_pos c1, if_neg c2, if_neg c22, if_pos c30, if_neg c33]; done) | (rw [if_pos c1, if_neg c2, if_neg c22, if_pos c30, if_neg c33]; rfl))
            exact vx_ret (W.widen (k := 1) (n := 6) (Nat.le_of_ble_eq_true rfl) (Nat.le_of_ble_eq_true rfl) (W.iret (v := 2) hx hb hr (fun t ht hW => ⟨⟨2, u31, rfl, ⟨hq1.symm, hIu31⟩, by rw [ht]; exact hP, va_K.moved hW.alike hK, hD⟩, hS.F ht⟩) hS.2.2 dX0_step_71))
        · refine lv_iconst (v := 0) hx hb dX0_step_39 (by decide) ?_
          refine lv_goto (tgt := 51) hx hb dX0_step_40 (by decide) ?_
          refine va_iast hx hb hK hP hD hS 2 0 rfl rfl (vi_c (by decide)) dX0_step_51 (fun H35 locs hP hD hS => ?_)
          obtain ⟨u34, eu34⟩ : ∃ y : XS, y = xF_ u20 (upd (xF u20) (Int32.toNatClampNeg 1) 0) := ⟨_, rfl⟩
          have hP : va_P D vwCl (wX cI cZ h u34) H35 := by rw [eu34]; exact hP
          have hD : va_D A (wX cI cZ h u34) := by rw [eu34]; exact hD
          have hIu34 : InvX u34 := by rw [eu34]; exact InvX.sF hIu20 _
          refine lv_aload_n hx hb dX0_step_52 rfl (lv_at hl 2 rfl) ?_
          refine va_get (D := D) (ci := 0) (v := .ref (h 2)) (C := RX0) (T := TX0) (N := 12) hx hb hts hin hown hK hP 0 rfl rfl 1 (by decide) (hts (.fieldLink RX0 13 "ModeDesk" "flashing" "[I") (by decide +kernel)) (fun _ h9 => h9) rfl dX0_step_53 ?_
          refine lv_iload_n hx hb dX0_step_56 rfl (lv_at hl 0 rfl) ?_
          refine va_iald hx hb hK hP 2 0 rfl rfl (vi_c (by decide)) dX0_step_57 ?_
          refine lv_if_le (tgt := 64) hx hb dX0_step_58 (by decide) (fun c36 => ?_) (fun c36 => ?_)
          · refine lv_iinc (v := 2) (lv' := [(3, .int 2), (2, .int 1), (0, .ref (h 0)), (1, .int a1)]) hx hb dX0_step_64 hl (k := 0) rfl (by decide) (by decide) rfl (fun ls hl => ?_)
            refine lv_goto (tgt := 19) hx hb dX0_step_67 (by decide) ?_
            refine lv_iload_n hx hb dX0_step_19 rfl (lv_at hl 0 rfl) ?_
            refine lv_iconst (v := 1) hx hb dX0_step_20 (by decide) ?_
            refine lv_icmp_gt (tgt := 70) hx hb dX0_step_21 (by decide) (fun _ => ?_) (fun c9 => absurd (by decide) c9)
            refine lv_iload_n hx hb dX0_step_70 rfl (lv_at hl 1 rfl) ?_
            have hq1 : pX0_step u a1 = some (1, u34) := (by subst eu34; subst eu20; unfold pX0_step; first | (rw [if_pos c1, if_neg c2, if_neg c22, if_neg c30, if_pos c36]; done) | (rw [if_pos c1, if_neg c2, if_neg c22, if_neg c30, if_pos c36]; rfl))
            exact vx_ret (W.widen (k := 1) (n := 6) (Nat.le_of_ble_eq_true rfl) (Nat.le_of_ble_eq_true rfl) (W.iret (v := 1) hx hb hr (fun t ht hW => ⟨⟨1, u34, rfl, ⟨hq1.symm, hIu34⟩, by rw [ht]; exact hP, va_K.moved hW.alike hK, hD⟩, hS.F ht⟩) hS.2.2 dX0_step_71))
          · refine lv_iinc (v := 2) (lv' := [(2, .int 2), (3, .int 1), (0, .ref (h 0)), (1, .int a1)]) hx hb dX0_step_61 hl (k := 1) rfl (by decide) (by decide) rfl (fun ls hl => ?_)
            refine lv_iinc (v := 2) (lv' := [(3, .int 2), (2, .int 2), (0, .ref (h 0)), (1, .int a1)]) hx hb dX0_step_64 hl (k := 1) rfl (by decide) (by decide) rfl (fun ls hl => ?_)
            refine lv_goto (tgt := 19) hx hb dX0_step_67 (by decide) ?_
            refine lv_iload_n hx hb dX0_step_19 rfl (lv_at hl 0 rfl) ?_
            refine lv_iconst (v := 1) hx hb dX0_step_20 (by decide) ?_
            refine lv_icmp_gt (tgt := 70) hx hb dX0_step_21 (by decide) (fun _ => ?_) (fun c9 => absurd (by decide) c9)
            refine lv_iload_n hx hb dX0_step_70 rfl (lv_at hl 1 rfl) ?_
            have hq1 : pX0_step u a1 = some (2, u34) := (by subst eu34; subst eu20; unfold pX0_step; first | (rw [if_pos c1, if_neg c2, if_neg c22, if_neg c30, if_neg c36]; done) | (rw [if_pos c1, if_neg c2, if_neg c22, if_neg c30, if_neg c36]; rfl))
            exact vx_ret (W.widen (k := 1) (n := 6) (Nat.le_of_ble_eq_true rfl) (Nat.le_of_ble_eq_true rfl) (W.iret (v := 2) hx hb hr (fun t ht hW => ⟨⟨2, u34, rfl, ⟨hq1.symm, hIu34⟩, by rw [ht]; exact hP, va_K.moved hW.alike hK, hD⟩, hS.F ht⟩) hS.2.2 dX0_step_71))
  · have hq1 : pX0_step u a1 = none := (by unfold pX0_step; first | (rw [if_neg c1]; done) | (rw [if_neg c1]; rfl))
    exact vx_throwS (own := RX0) (cls := iaeN) (text := "at least one step") (names := iaeU) (ik := 26) (is := 86) (ic := 30) (sa := sa 86) (mc := 1) (ms := 6) (A := A) hx hb hlt hown (by decide) (by decide) (hts (.classLink RX0 26 iaeN) (by decide +kernel)) (hts (.initialized iaeN) (by decide +kernel)) hs86 (vxA_all (fun w hw => hts w (hvx w hw)) hNN) vxA_ot hTU hTN hS (hl.1.trans hml.symm) dX0_step_5 dX0_step_8 dX0_step_9 dX0_step_11 dX0_step_14 (fun x hx9 => (hno x hx9).elim) (Nat.le_of_ble_eq_true rfl) (Nat.le_of_ble_eq_true rfl) (Nat.le_of_ble_eq_true rfl) (Nat.le_of_ble_eq_true rfl) hlocks (th_X hP hK hD hS ⟨hq1, rfl, hI⟩) hS.2.2 (Nat.le_refl _) (Nat.le_refl _)
def pX0_mode (u : XS) (a1 : Int32) : Option (Int32 × XS) := if a1 = 0 then (some ((xA u (Int32.toNatClampNeg a1)), u)) else (if a1 = 1 then (some ((xA u (Int32.toNatClampNeg a1)), u)) else (none))
set_option maxHeartbeats 4000000 in
set_option maxRecDepth 100000 in
theorem kX0_mode (l : Launch) (hlt : l.stackTraces = false) (D : va_G) (cI cZ : ClassId) (h : Nat → Nat) (sa : Nat → Nat) (tL tH : Nat) (sz : Nat) (u : XS) (a1 : Int32) (hI : InvX u) : Mt l yX0_mode wsX0_mode { frames := 6, cells := 1, slots := 6, locals := 90 } D (tyl cI cZ) (wX cI cZ h) sz u [.ref (h 0), .int a1] sa tL tH (fun r u9 => some (r, u9) = pX0_mode u a1 ∧ InvX u9) (fun u9 => pX0_mode u a1 = none ∧ u9 = u ∧ InvX u9) := by
  refine vx_ofW (cc := cX0_mode) (maxL := 2) (ret := (some .int)) (by decide) rfl ?_
  intro p e s m args below meth c s₁ B hml hno hv
  obtain ⟨rfl, ⟨hsz, hP, hK, hD0⟩, hTU, hTN, hs28, hs51, hs59, hs61, hs86, hs88, hs102, hZL, hTL, hZH, hTH, hNN⟩ := hv
  have hx := B.exec
  have hb := B.bytes
  have hr := B.returns
  have hts := atoms_spec (ws := wsX0_mode) B.pre
  have hin : ∀ w ∈ wsX00, w ∈ wsX0_mode := fun w h9 => List.mem_cons_of_mem _ (List.mem_append_left _ (List.mem_append_right _ h9))
  have hvx : ∀ w ∈ vxA.filter goodWord, w ∈ wsX0_mode := fun w h9 => List.mem_cons_of_mem _ (List.mem_append_right _ h9)
  have hown : s.vm.findClass RX0 = some m.cls := findClass_of_methodNamed B.named
  have hlocks := B.notSynchronized
  subst hsz
  have hD : va_D (va_A (wX cI cZ h u) s.heap.size) (wX cI cZ h u) := hD0.self (sz := s.heap.size)
  have hA : ∀ q : Nat, s.heap.size ≤ q → va_A (wX cI cZ h u) s.heap.size q := fun q h9 => Or.inr h9
  have hS : va_S (va_A (wX cI cZ h u) s.heap.size) s.heap s.heap [] := va_S.rf
  have hl := lv_entry ([.ref (h 0), .int a1]) (n := 2) (Nat.le_of_ble_eq_true rfl)
  rw [lg_entry_eq]
  generalize (lg_sl ([.ref (h 0), .int a1]) ++ List.replicate (2 - (lg_sl ([.ref (h 0), .int a1])).length) Slot.unset).toArray = ls at hl ⊢
  have hl : lv_has ls 2 [(0, .ref (h 0)), (1, .int a1)] := hl
  generalize va_A (wX cI cZ h u) s.heap.size = A at hD hA hS hTU hTN hZL hTL hZH hTH ⊢
  refine lv_iload_n hx hb dX0_mode_0 rfl (lv_at hl 1 rfl) ?_
  refine lv_if_eq (tgt := 19) hx hb dX0_mode_1 (by decide) (fun c1 => ?_) (fun c1 => ?_)
  · refine lv_aload_n hx hb dX0_mode_19 rfl (lv_at hl 0 rfl) ?_
    refine va_get (D := D) (ci := 0) (v := .ref (h 1)) (C := RX0) (T := TX0) (N := 12) hx hb hts hin hown hK hP 0 rfl rfl 0 (by decide) (hts (.fieldLink RX0 7 "ModeDesk" "active" "[I") (by decide +kernel)) (fun _ h9 => h9) rfl dX0_mode_20 ?_
    refine lv_iload_n hx hb dX0_mode_23 rfl (lv_at hl 1 rfl) ?_
    refine va_iald hx hb hK hP 1 0 rfl rfl (vi_2 (by first | exact Or.inl c1 | exact Or.inr c1)) dX0_mode_24 ?_
    have hq1 : pX0_mode u a1 = some ((xA u (Int32.toNatClampNeg a1)), u) := (by unfold pX0_mode; first | (rw [if_pos c1]; done) | (rw [if_pos c1]; rfl))
    exact vx_ret (W.widen (k := 1) (n := 6) (Nat.le_of_ble_eq_true rfl) (Nat.le_of_ble_eq_true rfl) (W.iret (v := (xA u (Int32.toNatClampNeg a1))) hx hb hr (fun t ht hW => ⟨⟨(xA u (Int32.toNatClampNeg a1)), u, rfl, ⟨hq1.symm, hI⟩, by rw [ht]; exact hP, va_K.moved hW.alike hK, hD⟩, hS.F ht⟩) hS.2.2 dX0_mode_25))
  · refine lv_iload_n hx hb dX0_mode_4 rfl (lv_at hl 1 rfl) ?_
    refine lv_iconst (v := 1) hx hb dX0_mode_5 (by decide) ?_
    refine lv_icmp_eq (tgt := 19) hx hb dX0_mode_6 (by decide) (fun c2 => ?_) (fun c2 => ?_)
    · refine lv_aload_n hx hb dX0_mode_19 rfl (lv_at hl 0 rfl) ?_
      refine va_get (D := D) (ci := 0) (v := .ref (h 1)) (C := RX0) (T := TX0) (N := 12) hx hb hts hin hown hK hP 0 rfl rfl 0 (by decide) (hts (.fieldLink RX0 7 "ModeDesk" "active" "[I") (by decide +kernel)) (fun _ h9 => h9) rfl dX0_mode_20 ?_
      refine lv_iload_n hx hb dX0_mode_23 rfl (lv_at hl 1 rfl) ?_
      refine va_iald hx hb hK hP 1 0 rfl rfl (vi_2 (by first | exact Or.inl c2 | exact Or.inr c2)) dX0_mode_24 ?_
      have hq1 : pX0_mode u a1 = some ((xA u (Int32.toNatClampNeg a1)), u) := (by unfold pX0_mode; first | (rw [if_neg c1, if_pos c2]; done) | (rw [if_neg c1, if_pos c2]; rfl))
      exact vx_ret (W.widen (k := 1) (n := 6) (Nat.le_of_ble_eq_true rfl) (Nat.le_of_ble_eq_true rfl) (W.iret (v := (xA u (Int32.toNatClampNeg a1))) hx hb hr (fun t ht hW => ⟨⟨(xA u (Int32.toNatClampNeg a1)), u, rfl, ⟨hq1.symm, hI⟩, by rw [ht]; exact hP, va_K.moved hW.alike hK, hD⟩, hS.F ht⟩) hS.2.2 dX0_mode_25))
    · have hq1 : pX0_mode u a1 = none := (by unfold pX0_mode; first | (rw [if_neg c1, if_neg c2]; done) | (rw [if_neg c1, if_neg c2]; rfl))
      exact vx_throwS (own := RX0) (cls := iaeN) (text := "no such place") (names := iaeU) (ik := 26) (is := 88) (ic := 30) (sa := sa 88) (mc := 1) (ms := 6) (A := A) hx hb hlt hown (by decide) (by decide) (hts (.classLink RX0 26 iaeN) (by decide +kernel)) (hts (.initialized iaeN) (by decide +kernel)) hs88 (vxA_all (fun w hw => hts w (hvx w hw)) hNN) vxA_ot hTU hTN hS (hl.1.trans hml.symm) dX0_mode_9 dX0_mode_12 dX0_mode_13 dX0_mode_15 dX0_mode_18 (fun x hx9 => (hno x hx9).elim) (Nat.le_of_ble_eq_true rfl) (Nat.le_of_ble_eq_true rfl) (Nat.le_of_ble_eq_true rfl) (Nat.le_of_ble_eq_true rfl) hlocks (th_X hP hK hD hS ⟨hq1, rfl, hI⟩) hS.2.2 (Nat.le_refl _) (Nat.le_refl _)
def pX0_armed (u : XS) (a1 : Int32) : Option (Int32 × XS) := if a1 = 0 then (some ((xn u), u)) else (if a1 = 1 then (some ((xa u), u)) else (if a1 = 2 then (some ((xg u), u)) else (if a1 = 3 then (some ((pX0_isCaptureArmed u), u)) else (none))))
set_option maxHeartbeats 4000000 in
set_option maxRecDepth 100000 in
theorem kX0_armed (l : Launch) (hlt : l.stackTraces = false) (D : va_G) (cI cZ : ClassId) (h : Nat → Nat) (sa : Nat → Nat) (tL tH : Nat) (sz : Nat) (u : XS) (a1 : Int32) (hI : InvX u) : Mt l yX0_armed wsX0_armed { frames := 6, cells := 1, slots := 6, locals := 90 } D (tyl cI cZ) (wX cI cZ h) sz u [.ref (h 0), .int a1] sa tL tH (fun r u9 => some (r, u9) = pX0_armed u a1 ∧ InvX u9 ∧ bz r) (fun u9 => pX0_armed u a1 = none ∧ u9 = u ∧ InvX u9) := by
  refine vx_ofW (cc := cX0_armed) (maxL := 2) (ret := (some .boolean)) (by decide) rfl ?_
  intro p e s m args below meth c s₁ B hml hno hv
  obtain ⟨rfl, ⟨hsz, hP, hK, hD0⟩, hTU, hTN, hs28, hs51, hs59, hs61, hs86, hs88, hs102, hZL, hTL, hZH, hTH, hNN⟩ := hv
  have hx := B.exec
  have hb := B.bytes
  have hr := B.returns
  have hts := atoms_spec (ws := wsX0_armed) B.pre
  have hin : ∀ w ∈ wsX00, w ∈ wsX0_armed := fun w h9 => List.mem_cons_of_mem _ (List.mem_append_left _ (List.mem_append_right _ h9))
  have hvx : ∀ w ∈ vxA.filter goodWord, w ∈ wsX0_armed := fun w h9 => List.mem_cons_of_mem _ (List.mem_append_right _ h9)
  have hown : s.vm.findClass RX0 = some m.cls := findClass_of_methodNamed B.named
  have hlocks := B.notSynchronized
  subst hsz
  have hD : va_D (va_A (wX cI cZ h u) s.heap.size) (wX cI cZ h u) := hD0.self (sz := s.heap.size)
  have hA : ∀ q : Nat, s.heap.size ≤ q → va_A (wX cI cZ h u) s.heap.size q := fun q h9 => Or.inr h9
  have hS : va_S (va_A (wX cI cZ h u) s.heap.size) s.heap s.heap [] := va_S.rf
  have hl := lv_entry ([.ref (h 0), .int a1]) (n := 2) (Nat.le_of_ble_eq_true rfl)
  rw [lg_entry_eq]
  generalize (lg_sl ([.ref (h 0), .int a1]) ++ List.replicate (2 - (lg_sl ([.ref (h 0), .int a1])).length) Slot.unset).toArray = ls at hl ⊢
  have hl : lv_has ls 2 [(0, .ref (h 0)), (1, .int a1)] := hl
  generalize va_A (wX cI cZ h u) s.heap.size = A at hD hA hS hTU hTN hZL hTL hZH hTH ⊢
  refine lv_iload_n hx hb dX0_armed_0 rfl (lv_at hl 1 rfl) ?_
  by_cases c1 : a1 = 0
  · refine lv_tableIn (off := 31) (tgt := 32) hx hb dX0_armed_1 (by rw [c1]; decide) (by rw [c1]; decide) (by rw [c1]; rfl) (by decide) ?_
    refine lv_aload_n hx hb dX0_armed_32 rfl (lv_at hl 0 rfl) ?_
    refine va_get (D := D) (ci := 0) (v := .int (xn u)) (C := RX0) (T := TX0) (N := 12) hx hb hts hin hown hK hP 0 rfl rfl 5 (by decide) (hts (.fieldLink RX0 90 "ModeDesk" "navArmed" "Z") (by decide +kernel)) (fun _ h9 => h9) rfl dX0_armed_33 ?_
    have hq1 : pX0_armed u a1 = some ((xn u), u) := (by unfold pX0_armed; first | (rw [if_pos c1]; done) | (rw [if_pos c1]; rfl))
    exact vx_ret (W.widen (k := 1) (n := 6) (Nat.le_of_ble_eq_true rfl) (Nat.le_of_ble_eq_true rfl) (W.zret (v := (xn u)) hx hb hr (bz_n hI.2.1) (fun t ht hW => ⟨⟨(xn u), u, rfl, ⟨hq1.symm, hI, hI.2.1⟩, by rw [ht]; exact hP, va_K.moved hW.alike hK, hD⟩, hS.F ht⟩) hS.2.2 dX0_armed_36))
  · by_cases c2 : a1 = 1
    · refine lv_tableIn (off := 36) (tgt := 37) hx hb dX0_armed_1 (by rw [c2]; decide) (by rw [c2]; decide) (by rw [c2]; rfl) (by decide) ?_
      refine lv_aload_n hx hb dX0_armed_37 rfl (lv_at hl 0 rfl) ?_
      refine va_get (D := D) (ci := 0) (v := .int (xa u)) (C := RX0) (T := TX0) (N := 12) hx hb hts hin hown hK hP 0 rfl rfl 6 (by decide) (hts (.fieldLink RX0 93 "ModeDesk" "approachArmed" "Z") (by decide +kernel)) (fun _ h9 => h9) rfl dX0_armed_38 ?_
      have hq1 : pX0_armed u a1 = some ((xa u), u) := (by unfold pX0_armed; first | (rw [if_neg c1, if_pos c2]; done) | (rw [if_neg c1, if_pos c2]; rfl))
      exact vx_ret (W.widen (k := 1) (n := 6) (Nat.le_of_ble_eq_true rfl) (Nat.le_of_ble_eq_true rfl) (W.zret (v := (xa u)) hx hb hr (bz_n hI.2.2.1) (fun t ht hW => ⟨⟨(xa u), u, rfl, ⟨hq1.symm, hI, hI.2.2.1⟩, by rw [ht]; exact hP, va_K.moved hW.alike hK, hD⟩, hS.F ht⟩) hS.2.2 dX0_armed_41))
    · by_cases c3 : a1 = 2
      · refine lv_tableIn (off := 41) (tgt := 42) hx hb dX0_armed_1 (by rw [c3]; decide) (by rw [c3]; decide) (by rw [c3]; rfl) (by decide) ?_
        refine lv_aload_n hx hb dX0_armed_42 rfl (lv_at hl 0 rfl) ?_
        refine va_get (D := D) (ci := 0) (v := .int (xg u)) (C := RX0) (T := TX0) (N := 12) hx hb hts hin hown hK hP 0 rfl rfl 7 (by decide) (hts (.fieldLink RX0 96 "ModeDesk" "glideArmed" "Z") (by decide +kernel)) (fun _ h9 => h9) rfl dX0_armed_43 ?_
        have hq1 : pX0_armed u a1 = some ((xg u), u) := (by unfold pX0_armed; first | (rw [if_neg c1, if_neg c2, if_pos c3]; done) | (rw [if_neg c1, if_neg c2, if_pos c3]; rfl))
        exact vx_ret (W.widen (k := 1) (n := 6) (Nat.le_of_ble_eq_true rfl) (Nat.le_of_ble_eq_true rfl) (W.zret (v := (xg u)) hx hb hr (bz_n hI.2.2.2.1) (fun t ht hW => ⟨⟨(xg u), u, rfl, ⟨hq1.symm, hI, hI.2.2.2.1⟩, by rw [ht]; exact hP, va_K.moved hW.alike hK, hD⟩, hS.F ht⟩) hS.2.2 dX0_armed_46))
      · by_cases c4 : a1 = 3
        · refine lv_tableIn (off := 46) (tgt := 47) hx hb dX0_armed_1 (by rw [c4]; decide) (by rw [c4]; decide) (by rw [c4]; rfl) (by decide) ?_
          refine lv_aload_n hx hb dX0_armed_47 rfl (lv_at hl 0 rfl) ?_
          have hFc := va_free (wc := wX cI cZ h u) hD hS hA [0, 1, 2, 3, 4, 5] rfl
          refine va_calli (va_runV (As := []) (rest := []) ⟨hx, hb, hml, hown, hts⟩ (kX0_isCaptureArmed l D cI cZ h s.heap.size u  hI) (cwV 0 hts gX0_armed_X0_isCaptureArmed rfl rfl rfl (by decide +kernel) ⟨Nat.le_of_ble_eq_true rfl, Nat.le_of_ble_eq_true rfl⟩) ⟨bl_W, va_recv hK hP (ci := 0) (q0 := 0) rfl rfl, pr_W hP hK hD⟩ rfl rfl hl.1 rfl (lv_room (Nat.le_of_ble_eq_true rfl)) dX0_armed_48 ⟨Nat.zero_le _, Nat.zero_le _⟩) hS (fun q _ h9 => hFc q h9) hFc (fun r5 u7 t H6 locs ht hvm hw hB hz1 hk1 hS => ?_)
          obtain ⟨hP, hK, hD⟩ := af_W hB ht hvm hFc
          clear hFc hB
          obtain ⟨er5, eu7, br5⟩ := hw
          rw [eu7] at hP hD
          have hq1 : pX0_armed u a1 = some (r5, u) := (by subst er5; unfold pX0_armed; first | (rw [if_neg c1, if_neg c2, if_neg c3, if_pos c4]; done) | (rw [if_neg c1, if_neg c2, if_neg c3, if_pos c4]; rfl))
          exact vx_ret (W.widen (k := 1) (n := 6) (Nat.le_of_ble_eq_true rfl) (Nat.le_of_ble_eq_true rfl) (W.zret (v := r5) hx hb hr (bz_n br5) (fun t ht hW => ⟨⟨r5, u, rfl, ⟨hq1.symm, hI, br5⟩, by rw [ht]; exact hP, va_K.moved hW.alike hK, hD⟩, hS.F ht⟩) hS.2.2 dX0_armed_51))
        · refine lv_tableOut (tgt := 52) hx hb dX0_armed_1 (by have h0 := ti_ne c1 (n := 0) (by decide); have h1 := ti_ne c2 (n := 1) (by decide); have h2 := ti_ne c3 (n := 2) (by decide); have h3 := ti_ne c4 (n := 3) (by decide); omega) (by decide) ?_
          have hq1 : pX0_armed u a1 = none := (by unfold pX0_armed; first | (rw [if_neg c1, if_neg c2, if_neg c3, if_neg c4]; done) | (rw [if_neg c1, if_neg c2, if_neg c3, if_neg c4]; rfl))
          exact vx_throwS (own := RX0) (cls := iaeN) (text := "no such mode to arm") (names := iaeU) (ik := 26) (is := 102) (ic := 30) (sa := sa 102) (mc := 1) (ms := 6) (A := A) hx hb hlt hown (by decide) (by decide) (hts (.classLink RX0 26 iaeN) (by decide +kernel)) (hts (.initialized iaeN) (by decide +kernel)) hs102 (vxA_all (fun w hw => hts w (hvx w hw)) hNN) vxA_ot hTU hTN hS (hl.1.trans hml.symm) dX0_armed_52 dX0_armed_55 dX0_armed_56 dX0_armed_58 dX0_armed_61 (fun x hx9 => (hno x hx9).elim) (Nat.le_of_ble_eq_true rfl) (Nat.le_of_ble_eq_true rfl) (Nat.le_of_ble_eq_true rfl) (Nat.le_of_ble_eq_true rfl) hlocks (th_X hP hK hD hS ⟨hq1, rfl, hI⟩) hS.2.2 (Nat.le_refl _) (Nat.le_refl _)
def pX0_measure (u : XS) (a1 : Int32) : Option (Int32 × XS) := if (pX0_isMeasure a1) = 0 then (none) else (some ((xM u (Int32.toNatClampNeg a1)), u))
set_option maxHeartbeats 4000000 in
set_option maxRecDepth 100000 in
theorem kX0_measure (l : Launch) (hlt : l.stackTraces = false) (D : va_G) (cI cZ : ClassId) (h : Nat → Nat) (sa : Nat → Nat) (tL tH : Nat) (sz : Nat) (u : XS) (a1 : Int32) (hI : InvX u) : Mt l yX0_measure wsX0_measure { frames := 6, cells := 1, slots := 6, locals := 90 } D (tyl cI cZ) (wX cI cZ h) sz u [.ref (h 0), .int a1] sa tL tH (fun r u9 => some (r, u9) = pX0_measure u a1 ∧ InvX u9) (fun u9 => pX0_measure u a1 = none ∧ u9 = u ∧ InvX u9) := by
  refine vx_ofW (cc := cX0_measure) (maxL := 2) (ret := (some .int)) (by decide) rfl ?_
  intro p e s m args below meth c s₁ B hml hno hv
  obtain ⟨rfl, ⟨hsz, hP, hK, hD0⟩, hTU, hTN, hs28, hs51, hs59, hs61, hs86, hs88, hs102, hZL, hTL, hZH, hTH, hNN⟩ := hv
  have hx := B.exec
  have hb := B.bytes
  have hr := B.returns
  have hts := atoms_spec (ws := wsX0_measure) B.pre
  have hin : ∀ w ∈ wsX00, w ∈ wsX0_measure := fun w h9 => List.mem_cons_of_mem _ (List.mem_append_left _ (List.mem_append_right _ h9))
  have hvx : ∀ w ∈ vxA.filter goodWord, w ∈ wsX0_measure := fun w h9 => List.mem_cons_of_mem _ (List.mem_append_right _ h9)
  have hown : s.vm.findClass RX0 = some m.cls := findClass_of_methodNamed B.named
  have hlocks := B.notSynchronized
  subst hsz
  have hD : va_D (va_A (wX cI cZ h u) s.heap.size) (wX cI cZ h u) := hD0.self (sz := s.heap.size)
  have hA : ∀ q : Nat, s.heap.size ≤ q → va_A (wX cI cZ h u) s.heap.size q := fun q h9 => Or.inr h9
  have hS : va_S (va_A (wX cI cZ h u) s.heap.size) s.heap s.heap [] := va_S.rf
  have hl := lv_entry ([.ref (h 0), .int a1]) (n := 2) (Nat.le_of_ble_eq_true rfl)
  rw [lg_entry_eq]
  generalize (lg_sl ([.ref (h 0), .int a1]) ++ List.replicate (2 - (lg_sl ([.ref (h 0), .int a1])).length) Slot.unset).toArray = ls at hl ⊢
  have hl : lv_has ls 2 [(0, .ref (h 0)), (1, .int a1)] := hl
  generalize va_A (wX cI cZ h u) s.heap.size = A at hD hA hS hTU hTN hZL hTL hZH hTH ⊢
  refine lv_iload_n hx hb dX0_measure_0 rfl (lv_at hl 1 rfl) ?_
  refine va_calli (va_runS (As := [.int a1]) (rest := []) ⟨hx, hb, hml, hown, hts⟩ (kX0_isMeasure l D (tyl cI cZ) s.heap.size a1) (va_cwS 1 hts gX0_measure_X0_isMeasure rfl rfl rfl (by decide +kernel) ⟨Nat.le_of_ble_eq_true rfl, Nat.le_of_ble_eq_true rfl⟩) ⟨bl_W, pr_W (ws := wE ()) pE hK (dE (A := A))⟩ rfl rfl hl.1 rfl (lv_room (Nat.le_of_ble_eq_true rfl)) dX0_measure_1 ⟨Nat.zero_le _, Nat.zero_le _⟩) hS (fun q _ h9 => fr_E hS hA q h9) (fr_E hS hA) (fun r1 u9 t H2 locs ht hvm hw hB hz1 hk1 hS => ?_)
  have hP := af_E hP hk1
  obtain ⟨er1, br1⟩ := hw
  refine lv_if_ne (tgt := 17) hx hb dX0_measure_4 (by decide) (fun c3 => ?_) (fun c3 => ?_)
  · refine lv_aload_n hx hb dX0_measure_17 rfl (lv_at hl 0 rfl) ?_
    refine va_get (D := D) (ci := 0) (v := .ref (h 3)) (C := RX0) (T := TX0) (N := 12) hx hb hts hin hown hK hP 0 rfl rfl 2 (by decide) (hts (.fieldLink RX0 16 "ModeDesk" "measures" "[I") (by decide +kernel)) (fun _ h9 => h9) rfl dX0_measure_18 ?_
    refine lv_iload_n hx hb dX0_measure_21 rfl (lv_at hl 1 rfl) ?_
    refine va_iald hx hb hK hP 3 0 rfl rfl (vi_m er1 c3) dX0_measure_22 ?_
    have hq1 : pX0_measure u a1 = some ((xM u (Int32.toNatClampNeg a1)), u) := (by subst er1; unfold pX0_measure; first | (rw [if_neg c3]; done) | (rw [if_neg c3]; rfl))
    exact vx_ret (W.widen (k := 1) (n := 6) (Nat.le_of_ble_eq_true rfl) (Nat.le_of_ble_eq_true rfl) (W.iret (v := (xM u (Int32.toNatClampNeg a1))) hx hb hr (fun t ht hW => ⟨⟨(xM u (Int32.toNatClampNeg a1)), u, rfl, ⟨hq1.symm, hI⟩, by rw [ht]; exact hP, va_K.moved hW.alike hK, hD⟩, hS.F ht⟩) hS.2.2 dX0_measure_23))
  · have hq1 : pX0_measure u a1 = none := (by subst er1; unfold pX0_measure; first | (rw [if_pos c3]; done) | (rw [if_pos c3]; rfl))
    exact vx_throwS (own := RX0) (cls := iaeN) (text := "no such measure") (names := iaeU) (ik := 26) (is := 51) (ic := 30) (sa := sa 51) (mc := 1) (ms := 6) (A := A) hx hb hlt hown (by decide) (by decide) (hts (.classLink RX0 26 iaeN) (by decide +kernel)) (hts (.initialized iaeN) (by decide +kernel)) hs51 (vxA_all (fun w hw => hts w (hvx w hw)) hNN) vxA_ot hTU hTN hS (hl.1.trans hml.symm) dX0_measure_7 dX0_measure_10 dX0_measure_11 dX0_measure_13 dX0_measure_16 (fun x hx9 => (hno x hx9).elim) (Nat.le_of_ble_eq_true rfl) (Nat.le_of_ble_eq_true rfl) (Nat.le_of_ble_eq_true rfl) (Nat.le_of_ble_eq_true rfl) hlocks (th_X hP hK hD hS ⟨hq1, rfl, hI⟩) hS.2.2 (Nat.le_refl _) (Nat.le_refl _)
