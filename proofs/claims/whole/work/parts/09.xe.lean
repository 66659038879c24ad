def pX0_stateAsNumber_71 (u : XS) (j1 j2 : Int32) : Int32 := (j2 ||| (pX0_bit j1 1024))
def pX0_stateAsNumber (u : XS) : Int32 := if (xl u) = 1 then (pX0_stateAsNumber_71 u 1 ((((((xA u (Int32.toNatClampNeg 0)) ||| ((xA u (Int32.toNatClampNeg 1)) <<< ((3 : Int32) &&& 31))) ||| (pX0_bit (xn u) 64)) ||| (pX0_bit (xa u) 128)) ||| (pX0_bit (xg u) 256)) ||| (pX0_bit (xe u) 512))) else (pX0_stateAsNumber_71 u 0 ((((((xA u (Int32.toNatClampNeg 0)) ||| ((xA u (Int32.toNatClampNeg 1)) <<< ((3 : Int32) &&& 31))) ||| (pX0_bit (xn u) 64)) ||| (pX0_bit (xa u) 128)) ||| (pX0_bit (xg u) 256)) ||| (pX0_bit (xe u) 512)))
set_option maxHeartbeats 4000000 in
set_option maxRecDepth 100000 in
theorem kX0_stateAsNumber (l : Launch) (D : va_G) (cI cZ : ClassId) (h : Nat → Nat) (sz : Nat) (u : XS) (hI : InvX u) : Mi l yX0_stateAsNumber wsX0_stateAsNumber { frames := 1, cells := 0, slots := 0, locals := 21 } D (tyl cI cZ) (wX cI cZ h) sz u [.ref (h 0)] (fun r u9 => r = pX0_stateAsNumber u ∧ u9 = u) := by
  refine Met.ofW (cc := cX0_stateAsNumber) (maxL := 1) (ret := (some .int)) (by decide) rfl ?_
  intro p e s m args below meth c s₁ B hml hv
  obtain ⟨rfl, hsz, hP, hK, hD0⟩ := hv
  have hx := B.exec
  have hb := B.bytes
  have hr := B.returns
  have hts := atoms_spec (ws := wsX0_stateAsNumber) B.pre
  have hin : ∀ w ∈ wsX00, w ∈ wsX0_stateAsNumber := fun w h9 => List.mem_cons_of_mem _ (List.mem_append_right _ h9)
  have hown : s.vm.findClass RX0 = some m.cls := findClass_of_methodNamed B.named
  have hlocks := B.notSynchronized
  subst hsz
  have hD : va_D (va_A (wX cI cZ h u) s.heap.size) (wX cI cZ h u) := hD0.self (sz := s.heap.size)
  have hA : ∀ q : Nat, s.heap.size ≤ q → va_A (wX cI cZ h u) s.heap.size q := fun q h9 => Or.inr h9
  have hS : va_S (va_A (wX cI cZ h u) s.heap.size) s.heap s.heap [] := va_S.rf
  have hl := lv_entry ([.ref (h 0)]) (n := 1) (Nat.le_of_ble_eq_true rfl)
  rw [lg_entry_eq]
  generalize (lg_sl ([.ref (h 0)]) ++ List.replicate (1 - (lg_sl ([.ref (h 0)])).length) Slot.unset).toArray = ls at hl ⊢
  have hl : lv_has ls 1 [(0, .ref (h 0))] := hl
  generalize va_A (wX cI cZ h u) s.heap.size = A at hD hA hS ⊢
  have J71 : ∀  (j1 j2 : Int32) (G71 : Heap) (locs : List Loc) (ls : Array Slot), lv_has ls 1 [(0, .ref (h 0))] → va_P D vwCl (wX cI cZ h u) G71 → va_D A (wX cI cZ h u) → va_S A s.heap G71 locs → va_K D vwCl (tyl cI cZ) s → bz j1 → pX0_stateAsNumber u = pX0_stateAsNumber_71 u  j1 j2 → W p l e (headSpec wsX0_stateAsNumber { frames := 1, cells := 0, slots := 0, locals := 21 }).room s m ([.ref (h 0)] : List Value).toArray below meth c G71 locs 0 0 (MQ below (va_Qi (fun r u9 => r = pX0_stateAsNumber u ∧ u9 = u) (BW D (tyl cI cZ) A (wX cI cZ h)) A) ([.ref (h 0)] : List Value).toArray s 0 0 A) (F0 m 71 ls [.int j1, .int j2]) := by
    intro  j1 j2 G71 locs ls hl hP hD hS hK  hzj1 hq
    refine lv_sipush (v := 1024) hx hb dX0_stateAsNumber_71 (by decide) ?_
    refine va_calli (va_runS (As := [.int j1, .int 1024]) (rest := [.int j2]) ⟨hx, hb, hml, hown, hts⟩ (kX0_bit l D (tyl cI cZ) G71.size j1 1024) (va_cwS 2 hts gX0_stateAsNumber_X0_bit rfl rfl rfl (by decide +kernel) ⟨Nat.le_of_ble_eq_true rfl, Nat.le_of_ble_eq_true rfl⟩) ⟨bl_W, pr_W (ws := wE ()) pE hK (dE (A := A))⟩ rfl rfl hl.1 rfl (lv_room (Nat.le_of_ble_eq_true rfl)) dX0_stateAsNumber_74 ⟨Nat.zero_le _, Nat.zero_le _⟩) hS (fun q _ h9 => fr_E hS hA q h9) (fr_E hS hA) (fun r1 u9 t H2 locs ht hvm hw hB hz1 hk1 hS => ?_)
    have hP := af_E hP hk1
    have er1 := hw
    refine lv_ior hx hb dX0_stateAsNumber_77 ?_
    have hq1 : pX0_stateAsNumber u = (j2 ||| r1) := (by subst er1; rw [hq]; rfl)
    exact W.iret (v := (j2 ||| r1)) hx hb hr (fun t ht hW => ⟨⟨(j2 ||| r1), u, rfl, ⟨hq1.symm, rfl⟩, by rw [ht]; exact hP, va_K.moved hW.alike hK, hD⟩, hS.F ht⟩) hS.2.2 dX0_stateAsNumber_78
  refine lv_aload_n hx hb dX0_stateAsNumber_0 rfl (lv_at hl 0 rfl) ?_
  refine va_get (D := D) (ci := 0) (v := .ref (h 1)) (C := RX0) (T := TX0) (N := 12) hx hb hts hin hown hK hP 0 rfl rfl 0 (by decide) (hts (.fieldLink RX0 7 "ModeDesk" "active" "[I") (by decide +kernel)) (fun _ h9 => h9) rfl dX0_stateAsNumber_1 ?_
  refine lv_iconst (v := 0) hx hb dX0_stateAsNumber_4 (by decide) ?_
  refine va_iald hx hb hK hP 1 0 rfl rfl (vi_c (by decide)) dX0_stateAsNumber_5 ?_
  refine lv_aload_n hx hb dX0_stateAsNumber_6 rfl (lv_at hl 0 rfl) ?_
  refine va_get (D := D) (ci := 0) (v := .ref (h 1)) (C := RX0) (T := TX0) (N := 12) hx hb hts hin hown hK hP 0 rfl rfl 0 (by decide) (hts (.fieldLink RX0 7 "ModeDesk" "active" "[I") (by decide +kernel)) (fun _ h9 => h9) rfl dX0_stateAsNumber_7 ?_
  refine lv_iconst (v := 1) hx hb dX0_stateAsNumber_10 (by decide) ?_
  refine va_iald hx hb hK hP 1 0 rfl rfl (vi_c (by decide)) dX0_stateAsNumber_11 ?_
  refine lv_iconst (v := 3) hx hb dX0_stateAsNumber_12 (by decide) ?_
  refine lv_ishl hx hb dX0_stateAsNumber_13 ?_
  refine lv_ior hx hb dX0_stateAsNumber_14 ?_
  refine lv_aload_n hx hb dX0_stateAsNumber_15 rfl (lv_at hl 0 rfl) ?_
  refine va_get (D := D) (ci := 0) (v := .int (xn u)) (C := RX0) (T := TX0) (N := 12) hx hb hts hin hown hK hP 0 rfl rfl 5 (by decide) (hts (.fieldLink RX0 90 "ModeDesk" "navArmed" "Z") (by decide +kernel)) (fun _ h9 => h9) rfl dX0_stateAsNumber_16 ?_
  refine lv_bipush (v := 64) hx hb dX0_stateAsNumber_19 (by decide) ?_
  refine va_calli (va_runS (As := [.int (xn u), .int 64]) (rest := [.int ((xA u (Int32.toNatClampNeg 0)) ||| ((xA u (Int32.toNatClampNeg 1)) <<< ((3 : Int32) &&& 31)))]) ⟨hx, hb, hml, hown, hts⟩ (kX0_bit l D (tyl cI cZ) s.heap.size (xn u) 64) (va_cwS 2 hts gX0_stateAsNumber_X0_bit rfl rfl rfl (by decide +kernel) ⟨Nat.le_of_ble_eq_true rfl, Nat.le_of_ble_eq_true rfl⟩) ⟨bl_W, pr_W (ws := wE ()) pE hK (dE (A := A))⟩ rfl rfl hl.1 rfl (lv_room (Nat.le_of_ble_eq_true rfl)) dX0_stateAsNumber_21 ⟨Nat.zero_le _, Nat.zero_le _⟩) hS (fun q _ h9 => fr_E hS hA q h9) (fr_E hS hA) (fun r3 u9 t H4 locs ht hvm hw hB hz1 hk1 hS => ?_)
  have hP := af_E hP hk1
  have er3 := hw
  refine lv_ior hx hb dX0_stateAsNumber_24 ?_
  refine lv_aload_n hx hb dX0_stateAsNumber_25 rfl (lv_at hl 0 rfl) ?_
  refine va_get (D := D) (ci := 0) (v := .int (xa u)) (C := RX0) (T := TX0) (N := 12) hx hb hts hin hown hK hP 0 rfl rfl 6 (by decide) (hts (.fieldLink RX0 93 "ModeDesk" "approachArmed" "Z") (by decide +kernel)) (fun _ h9 => h9) rfl dX0_stateAsNumber_26 ?_
  refine lv_sipush (v := 128) hx hb dX0_stateAsNumber_29 (by decide) ?_
  refine va_calli (va_runS (As := [.int (xa u), .int 128]) (rest := [.int (((xA u (Int32.toNatClampNeg 0)) ||| ((xA u (Int32.toNatClampNeg 1)) <<< ((3 : Int32) &&& 31))) ||| r3)]) ⟨hx, hb, hml, hown, hts⟩ (kX0_bit l D (tyl cI cZ) H4.size (xa u) 128) (va_cwS 2 hts gX0_stateAsNumber_X0_bit rfl rfl rfl (by decide +kernel) ⟨Nat.le_of_ble_eq_true rfl, Nat.le_of_ble_eq_true rfl⟩) ⟨bl_W, pr_W (ws := wE ()) pE hK (dE (A := A))⟩ rfl rfl hl.1 rfl (lv_room (Nat.le_of_ble_eq_true rfl)) dX0_stateAsNumber_32 ⟨Nat.zero_le _, Nat.zero_le _⟩) hS (fun q _ h9 => fr_E hS hA q h9) (fr_E hS hA) (fun r5 u9 t H6 locs ht hvm hw hB hz1 hk1 hS => ?_)
  have hP := af_E hP hk1
  have er5 := hw
  refine lv_ior hx hb dX0_stateAsNumber_35 ?_
  refine lv_aload_n hx hb dX0_stateAsNumber_36 rfl (lv_at hl 0 rfl) ?_
  refine va_get (D := D) (ci := 0) (v := .int (xg u)) (C := RX0) (T := TX0) (N := 12) hx hb hts hin hown hK hP 0 rfl rfl 7 (by decide) (hts (.fieldLink RX0 96 "ModeDesk" "glideArmed" "Z") (by decide +kernel)) (fun _ h9 => h9) rfl dX0_stateAsNumber_37 ?_
  refine lv_sipush (v := 256) hx hb dX0_stateAsNumber_40 (by decide) ?_
  refine va_calli (va_runS (As := [.int (xg u), .int 256]) (rest := [.int ((((xA u (Int32.toNatClampNeg 0)) ||| ((xA u (Int32.toNatClampNeg 1)) <<< ((3 : Int32) &&& 31))) ||| r3) ||| r5)]) ⟨hx, hb, hml, hown, hts⟩ (kX0_bit l D (tyl cI cZ) H6.size (xg u) 256) (va_cwS 2 hts gX0_stateAsNumber_X0_bit rfl rfl rfl (by decide +kernel) ⟨Nat.le_of_ble_eq_true rfl, Nat.le_of_ble_eq_true rfl⟩) ⟨bl_W, pr_W (ws := wE ()) pE hK (dE (A := A))⟩ rfl rfl hl.1 rfl (lv_room (Nat.le_of_ble_eq_true rfl)) dX0_stateAsNumber_43 ⟨Nat.zero_le _, Nat.zero_le _⟩) hS (fun q _ h9 => fr_E hS hA q h9) (fr_E hS hA) (fun r7 u9 t H8 locs ht hvm hw hB hz1 hk1 hS => ?_)
  have hP := af_E hP hk1
  have er7 := hw
  refine lv_ior hx hb dX0_stateAsNumber_46 ?_
  refine lv_aload_n hx hb dX0_stateAsNumber_47 rfl (lv_at hl 0 rfl) ?_
  refine va_get (D := D) (ci := 0) (v := .int (xe u)) (C := RX0) (T := TX0) (N := 12) hx hb hts hin hown hK hP 0 rfl rfl 8 (by decide) (hts (.fieldLink RX0 63 "ModeDesk" "engaged" "Z") (by decide +kernel)) (fun _ h9 => h9) rfl dX0_stateAsNumber_48 ?_
  refine lv_sipush (v := 512) hx hb dX0_stateAsNumber_51 (by decide) ?_
  refine va_calli (va_runS (As := [.int (xe u), .int 512]) (rest := [.int (((((xA u (Int32.toNatClampNeg 0)) ||| ((xA u (Int32.toNatClampNeg 1)) <<< ((3 : Int32) &&& 31))) ||| r3) ||| r5) ||| r7)]) ⟨hx, hb, hml, hown, hts⟩ (kX0_bit l D (tyl cI cZ) H8.size (xe u) 512) (va_cwS 2 hts gX0_stateAsNumber_X0_bit rfl rfl rfl (by decide +kernel) ⟨Nat.le_of_ble_eq_true rfl, Nat.le_of_ble_eq_true rfl⟩) ⟨bl_W, pr_W (ws := wE ()) pE hK (dE (A := A))⟩ rfl rfl hl.1 rfl (lv_room (Nat.le_of_ble_eq_true rfl)) dX0_stateAsNumber_54 ⟨Nat.zero_le _, Nat.zero_le _⟩) hS (fun q _ h9 => fr_E hS hA q h9) (fr_E hS hA) (fun r9 u9 t H10 locs ht hvm hw hB hz1 hk1 hS => ?_)
  have hP := af_E hP hk1
  have er9 := hw
  refine lv_ior hx hb dX0_stateAsNumber_57 ?_
  refine lv_aload_n hx hb dX0_stateAsNumber_58 rfl (lv_at hl 0 rfl) ?_
  refine va_get (D := D) (ci := 0) (v := .int (xl u)) (C := RX0) (T := TX0) (N := 12) hx hb hts hin hown hK hP 0 rfl rfl 4 (by decide) (hts (.fieldLink RX0 111 "ModeDesk" "leader" "I") (by decide +kernel)) (fun _ h9 => h9) rfl dX0_stateAsNumber_59 ?_
  refine lv_iconst (v := 1) hx hb dX0_stateAsNumber_62 (by decide) ?_
  refine lv_icmp_ne (tgt := 70) hx hb dX0_stateAsNumber_63 (by decide) (fun c11 => ?_) (fun c11 => ?_)
  · refine lv_iconst (v := 0) hx hb dX0_stateAsNumber_70 (by decide) ?_
    exact J71  0 ((((((xA u (Int32.toNatClampNeg 0)) ||| ((xA u (Int32.toNatClampNeg 1)) <<< ((3 : Int32) &&& 31))) ||| r3) ||| r5) ||| r7) ||| r9) H10 _ _ (lv_sub hl [0] rfl) hP hD hS hK  bz0 (by subst er9; subst er7; subst er5; subst er3; unfold pX0_stateAsNumber; first | (rw [if_neg c11]; done) | (rw [if_neg c11]; rfl))
  · refine lv_iconst (v := 1) hx hb dX0_stateAsNumber_66 (by decide) ?_
    refine lv_goto (tgt := 71) hx hb dX0_stateAsNumber_67 (by decide) ?_
    exact J71  1 ((((((xA u (Int32.toNatClampNeg 0)) ||| ((xA u (Int32.toNatClampNeg 1)) <<< ((3 : Int32) &&& 31))) ||| r3) ||| r5) ||| r7) ||| r9) H10 _ _ (lv_sub hl [0] rfl) hP hD hS hK  bz1 (by subst er9; subst er7; subst er5; subst er3; unfold pX0_stateAsNumber; first | (rw [if_pos c11]; done) | (rw [if_pos c11]; rfl))
def pX0_engage (u : XS) : Int32 × XS := if (xe u) = 0 then (if (pX0_isAnyChannelSound u) = 0 then ((0, u)) else (if (pX0_isAroundAnywhere u) = 0 then (if (pX0_isTooFast u) = 0 then ((1, (pX0_settle (xe_ (pX0_turnOnIfOff u) 1)).2)) else ((0, u))) else ((0, u)))) else ((0, u))
set_option maxHeartbeats 4000000 in
set_option maxRecDepth 100000 in
theorem kX0_engage (l : Launch) (D : va_G) (cI cZ : ClassId) (h : Nat → Nat) (sz : Nat) (u : XS) (hI : InvX u) : Mi l yX0_engage wsX0_engage { frames := 6, cells := 0, slots := 0, locals := 129 } D (tyl cI cZ) (wX cI cZ h) sz u [.ref (h 0)] (fun r u9 => (r, u9) = pX0_engage u ∧ InvX u9) := by
  refine Met.ofW (cc := cX0_engage) (maxL := 1) (ret := (some .int)) (by decide) rfl ?_
  intro p e s m args below meth c s₁ B hml hv
  obtain ⟨rfl, hsz, hP, hK, hD0⟩ := hv
  have hx := B.exec
  have hb := B.bytes
  have hr := B.returns
  have hts := atoms_spec (ws := wsX0_engage) B.pre
  have hin : ∀ w ∈ wsX00, w ∈ wsX0_engage := fun w h9 => List.mem_cons_of_mem _ (List.mem_append_right _ h9)
  have hown : s.vm.findClass RX0 = some m.cls := findClass_of_methodNamed B.named
  have hlocks := B.notSynchronized
  subst hsz
  have hD : va_D (va_A (wX cI cZ h u) s.heap.size) (wX cI cZ h u) := hD0.self (sz := s.heap.size)
  have hA : ∀ q : Nat, s.heap.size ≤ q → va_A (wX cI cZ h u) s.heap.size q := fun q h9 => Or.inr h9
  have hS : va_S (va_A (wX cI cZ h u) s.heap.size) s.heap s.heap [] := va_S.rf
  have hl := lv_entry ([.ref (h 0)]) (n := 1) (Nat.le_of_ble_eq_true rfl)
  rw [lg_entry_eq]
  generalize (lg_sl ([.ref (h 0)]) ++ List.replicate (1 - (lg_sl ([.ref (h 0)])).length) Slot.unset).toArray = ls at hl ⊢
  have hl : lv_has ls 1 [(0, .ref (h 0))] := hl
  generalize va_A (wX cI cZ h u) s.heap.size = A at hD hA hS ⊢
  refine lv_aload_n hx hb dX0_engage_0 rfl (lv_at hl 0 rfl) ?_
  refine va_get (D := D) (ci := 0) (v := .int (xe u)) (C := RX0) (T := TX0) (N := 12) hx hb hts hin hown hK hP 0 rfl rfl 8 (by decide) (hts (.fieldLink RX0 63 "ModeDesk" "engaged" "Z") (by decide +kernel)) (fun _ h9 => h9) rfl dX0_engage_1 ?_
  refine lv_if_ne (tgt := 28) hx hb dX0_engage_4 (by decide) (fun c1 => ?_) (fun c1 => ?_)
  · refine lv_iconst (v := 0) hx hb dX0_engage_28 (by decide) ?_
    have hq1 : pX0_engage u = (0, u) := (by unfold pX0_engage; first | (rw [if_neg c1]; done) | (rw [if_neg c1]; rfl))
    exact W.iret (v := 0) hx hb hr (fun t ht hW => ⟨⟨0, u, rfl, ⟨hq1.symm, hI⟩, by rw [ht]; exact hP, va_K.moved hW.alike hK, hD⟩, hS.F ht⟩) hS.2.2 dX0_engage_29
  · refine lv_aload_n hx hb dX0_engage_7 rfl (lv_at hl 0 rfl) ?_
    have hFc := va_free (wc := wX cI cZ h u) hD hS hA [0, 1, 2, 3, 4, 5] rfl
    refine va_calli (va_runV (As := []) (rest := []) ⟨hx, hb, hml, hown, hts⟩ (kX0_isAnyChannelSound l D cI cZ h s.heap.size u  hI) (cwV 0 hts gX0_engage_X0_isAnyChannelSound rfl rfl rfl (by decide +kernel) ⟨Nat.le_of_ble_eq_true rfl, Nat.le_of_ble_eq_true rfl⟩) ⟨bl_W, va_recv hK hP (ci := 0) (q0 := 0) rfl rfl, pr_W hP hK hD⟩ rfl rfl hl.1 rfl (lv_room (Nat.le_of_ble_eq_true rfl)) dX0_engage_8 ⟨Nat.zero_le _, Nat.zero_le _⟩) hS (fun q _ h9 => hFc q h9) hFc (fun r2 u4 t H3 locs ht hvm hw hB hz1 hk1 hS => ?_)
    obtain ⟨hP, hK, hD⟩ := af_W hB ht hvm hFc
    clear hFc hB
    obtain ⟨er2, eu4, br2⟩ := hw
    rw [eu4] at hP hD
    refine lv_if_eq (tgt := 28) hx hb dX0_engage_11 (by decide) (fun c5 => ?_) (fun c5 => ?_)
    · refine lv_iconst (v := 0) hx hb dX0_engage_28 (by decide) ?_
      have hq1 : pX0_engage u = (0, u) := (by subst er2; unfold pX0_engage; first | (rw [if_pos c1, if_pos c5]; done) | (rw [if_pos c1, if_pos c5]; rfl))
      exact W.iret (v := 0) hx hb hr (fun t ht hW => ⟨⟨0, u, rfl, ⟨hq1.symm, hI⟩, by rw [ht]; exact hP, va_K.moved hW.alike hK, hD⟩, hS.F ht⟩) hS.2.2 dX0_engage_29
    · refine lv_aload_n hx hb dX0_engage_14 rfl (lv_at hl 0 rfl) ?_
      have hFc := va_free (wc := wX cI cZ h u) hD hS hA [0, 1, 2, 3, 4, 5] rfl
      refine va_calli (va_runV (As := []) (rest := []) ⟨hx, hb, hml, hown, hts⟩ (kX0_isAroundAnywhere l D cI cZ h H3.size u  hI) (cwV 0 hts gX0_engage_X0_isAroundAnywhere rfl rfl rfl (by decide +kernel) ⟨Nat.le_of_ble_eq_true rfl, Nat.le_of_ble_eq_true rfl⟩) ⟨bl_W, va_recv hK hP (ci := 0) (q0 := 0) rfl rfl, pr_W hP hK hD⟩ rfl rfl hl.1 rfl (lv_room (Nat.le_of_ble_eq_true rfl)) dX0_engage_15 ⟨Nat.zero_le _, Nat.zero_le _⟩) hS (fun q _ h9 => hFc q h9) hFc (fun r6 u8 t H7 locs ht hvm hw hB hz1 hk1 hS => ?_)
      obtain ⟨hP, hK, hD⟩ := af_W hB ht hvm hFc
      clear hFc hB
      obtain ⟨er6, eu8, br6⟩ := hw
      rw [eu8] at hP hD
      refine lv_if_ne (tgt := 28) hx hb dX0_engage_18 (by decide) (fun c9 => ?_) (fun c9 => ?_)
      · refine lv_iconst (v := 0) hx hb dX0_engage_28 (by decide) ?_
        have hq1 : pX0_engage u = (0, u) := (by subst er6; subst er2; unfold pX0_engage; first | (rw [if_pos c1, if_neg c5, if_neg c9]; done) | (rw [if_pos c1, if_neg c5, if_neg c9]; rfl))
        exact W.iret (v := 0) hx hb hr (fun t ht hW => ⟨⟨0, u, rfl, ⟨hq1.symm, hI⟩, by rw [ht]; exact hP, va_K.moved hW.alike hK, hD⟩, hS.F ht⟩) hS.2.2 dX0_engage_29
      · refine lv_aload_n hx hb dX0_engage_21 rfl (lv_at hl 0 rfl) ?_
        have hFc := va_free (wc := wX cI cZ h u) hD hS hA [0, 1, 2, 3, 4, 5] rfl
        refine va_calli (va_runV (As := []) (rest := []) ⟨hx, hb, hml, hown, hts⟩ (kX0_isTooFast l D cI cZ h H7.size u  hI) (cwV 0 hts gX0_engage_X0_isTooFast rfl rfl rfl (by decide +kernel) ⟨Nat.le_of_ble_eq_true rfl, Nat.le_of_ble_eq_true rfl⟩) ⟨bl_W, va_recv hK hP (ci := 0) (q0 := 0) rfl rfl, pr_W hP hK hD⟩ rfl rfl hl.1 rfl (lv_room (Nat.le_of_ble_eq_true rfl)) dX0_engage_22 ⟨Nat.zero_le _, Nat.zero_le _⟩) hS (fun q _ h9 => hFc q h9) hFc (fun r10 u12 t H11 locs ht hvm hw hB hz1 hk1 hS => ?_)
        obtain ⟨hP, hK, hD⟩ := af_W hB ht hvm hFc
        clear hFc hB
        obtain ⟨er10, eu12, br10⟩ := hw
        rw [eu12] at hP hD
        refine lv_if_eq (tgt := 30) hx hb dX0_engage_25 (by decide) (fun c13 => ?_) (fun c13 => ?_)
        · refine lv_aload_n hx hb dX0_engage_30 rfl (lv_at hl 0 rfl) ?_
          have hFc := va_free (wc := wX cI cZ h u) hD hS hA [0, 1, 2, 3, 4, 5] rfl
          refine va_callv (va_runV (As := []) (rest := []) ⟨hx, hb, hml, hown, hts⟩ (kX0_turnOnIfOff l D cI cZ h H11.size u  hI) (cwV 0 hts gX0_engage_X0_turnOnIfOff rfl rfl rfl (by decide +kernel) ⟨Nat.le_of_ble_eq_true rfl, Nat.le_of_ble_eq_true rfl⟩) ⟨bl_W, va_recv hK hP (ci := 0) (q0 := 0) rfl rfl, pr_W hP hK hD⟩ rfl rfl hl.1 rfl (lv_room (Nat.le_of_ble_eq_true rfl)) dX0_engage_31 ⟨Nat.zero_le _, Nat.zero_le _⟩) hS (fun q _ h9 => hFc q h9) hFc (fun u16 t H15 locs ht hvm hw hB hz1 hk1 hS => ?_)
          obtain ⟨hP, hK, hD⟩ := af_W hB ht hvm hFc
          clear hFc hB
          obtain ⟨eu16, hIu16⟩ := hw
          refine lv_aload_n hx hb dX0_engage_34 rfl (lv_at hl 0 rfl) ?_
          refine lv_iconst (v := 1) hx hb dX0_engage_35 (by decide) ?_
          refine va_put (D := D) (ci := 0) (v := .int 1) (ty := .boolean) (C := RX0) (T := TX0) (N := 12) hx hb hts hin tyX0 tyX0_ok nmX0 hown hK hP hD hS 0 rfl rfl 8 (by decide) (hts (.fieldLink RX0 63 "ModeDesk" "engaged" "Z") (by decide +kernel)) (fun _ h9 => h9) rfl (by decide +kernel) (bz_n bz1) (bz_f bz1) (Nat.le_of_ble_eq_true rfl) dX0_engage_36 (fun H18 locs hP hD hS => ?_)
          obtain ⟨u17, eu17⟩ : ∃ y : XS, y = xe_ u16 1 := ⟨_, rfl⟩
          have hP : va_P D vwCl (wX cI cZ h u17) H18 := by rw [eu17]; exact hP
          have hD : va_D A (wX cI cZ h u17) := by rw [eu17]; exact hD
          have hIu17 : InvX u17 := by rw [eu17]; exact InvX.se hIu16 bz1
          refine lv_aload_n hx hb dX0_engage_39 rfl (lv_at hl 0 rfl) ?_
          have hFc := va_free (wc := wX cI cZ h u17) hD hS hA [0, 1, 2, 3, 4, 5] rfl
          refine va_calli (va_runV (As := []) (rest := []) ⟨hx, hb, hml, hown, hts⟩ (kX0_settle l D cI cZ h H18.size u17  hIu17) (cwV 0 hts gX0_engage_X0_settle rfl rfl rfl (by decide +kernel) ⟨Nat.le_of_ble_eq_true rfl, Nat.le_of_ble_eq_true rfl⟩) ⟨bl_W, va_recv hK hP (ci := 0) (q0 := 0) rfl rfl, pr_W hP hK hD⟩ rfl rfl hl.1 rfl (lv_room (Nat.le_of_ble_eq_true rfl)) dX0_engage_40 ⟨Nat.zero_le _, Nat.zero_le _⟩) hS (fun q _ h9 => hFc q h9) hFc (fun r19 u21 t H20 locs ht hvm hw hB hz1 hk1 hS => ?_)
          obtain ⟨hP, hK, hD⟩ := af_W hB ht hvm hFc
          clear hFc hB
          obtain ⟨e9, hIu21⟩ := hw
          have er19 : r19 = (pX0_settle u17).1 := congrArg Prod.fst e9
          have eu21 : u21 = (pX0_settle u17).2 := congrArg Prod.snd e9
          clear e9
          refine lv_pop hx hb dX0_engage_43 rfl ?_
          refine lv_iconst (v := 1) hx hb dX0_engage_44 (by decide) ?_
          have hq1 : pX0_engage u = (1, u21) := (by subst eu21; subst er19; subst eu17; subst eu16; subst er10; subst er6; subst er2; unfold pX0_engage; first | (rw [if_pos c1, if_neg c5, if_pos c9, if_pos c13]; done) | (rw [if_pos c1, if_neg c5, if_pos c9, if_pos c13]; rfl))
          exact W.iret (v := 1) hx hb hr (fun t ht hW => ⟨⟨1, u21, rfl, ⟨hq1.symm, hIu21⟩, by rw [ht]; exact hP, va_K.moved hW.alike hK, hD⟩, hS.F ht⟩) hS.2.2 dX0_engage_45
        · refine lv_iconst (v := 0) hx hb dX0_engage_28 (by decide) ?_
          have hq1 : pX0_engage u = (0, u) := (by subst er10; subst er6; subst er2; unfold pX0_engage; first | (rw [if_pos c1, if_neg c5, if_pos c9, if_neg c13]; done) | (rw [if_pos c1, if_neg c5, if_pos c9, if_neg c13]; rfl))
          exact W.iret (v := 0) hx hb hr (fun t ht hW => ⟨⟨0, u, rfl, ⟨hq1.symm, hI⟩, by rw [ht]; exact hP, va_K.moved hW.alike hK, hD⟩, hS.F ht⟩) hS.2.2 dX0_engage_29
def pX0_disconnect (u : XS) : Int32 × XS := if (xe u) = 0 then (if (xw u) = 0 then ((0, u)) else ((1, xw_ u 0))) else ((2, pX0_disengageWithWarning u))
set_option maxHeartbeats 4000000 in
set_option maxRecDepth 100000 in
theorem kX0_disconnect (l : Launch) (D : va_G) (cI cZ : ClassId) (h : Nat → Nat) (sz : Nat) (u : XS) (hI : InvX u) : Mi l yX0_disconnect wsX0_disconnect { frames := 1, cells := 0, slots := 0, locals := 20 } D (tyl cI cZ) (wX cI cZ h) sz u [.ref (h 0)] (fun r u9 => (r, u9) = pX0_disconnect u ∧ InvX u9) := by
  refine Met.ofW (cc := cX0_disconnect) (maxL := 1) (ret := (some .int)) (by decide) rfl ?_
  intro p e s m args below meth c s₁ B hml hv
  obtain ⟨rfl, hsz, hP, hK, hD0⟩ := hv
  have hx := B.exec
  have hb := B.bytes
  have hr := B.returns
  have hts := atoms_spec (ws := wsX0_disconnect) B.pre
  have hin : ∀ w ∈ wsX00, w ∈ wsX0_disconnect := fun w h9 => List.mem_cons_of_mem _ (List.mem_append_right _ h9)
  have hown : s.vm.findClass RX0 = some m.cls := findClass_of_methodNamed B.named
  have hlocks := B.notSynchronized
  subst hsz
  have hD : va_D (va_A (wX cI cZ h u) s.heap.size) (wX cI cZ h u) := hD0.self (sz := s.heap.size)
  have hA : ∀ q : Nat, s.heap.size ≤ q → va_A (wX cI cZ h u) s.heap.size q := fun q h9 => Or.inr h9
  have hS : va_S (va_A (wX cI cZ h u) s.heap.size) s.heap s.heap [] := va_S.rf
  have hl := lv_entry ([.ref (h 0)]) (n := 1) (Nat.le_of_ble_eq_true rfl)
  rw [lg_entry_eq]
  generalize (lg_sl ([.ref (h 0)]) ++ List.replicate (1 - (lg_sl ([.ref (h 0)])).length) Slot.unset).toArray = ls at hl ⊢
  have hl : lv_has ls 1 [(0, .ref (h 0))] := hl
  generalize va_A (wX cI cZ h u) s.heap.size = A at hD hA hS ⊢
  refine lv_aload_n hx hb dX0_disconnect_0 rfl (lv_at hl 0 rfl) ?_
  refine va_get (D := D) (ci := 0) (v := .int (xe u)) (C := RX0) (T := TX0) (N := 12) hx hb hts hin hown hK hP 0 rfl rfl 8 (by decide) (hts (.fieldLink RX0 63 "ModeDesk" "engaged" "Z") (by decide +kernel)) (fun _ h9 => h9) rfl dX0_disconnect_1 ?_
  refine lv_if_eq (tgt := 13) hx hb dX0_disconnect_4 (by decide) (fun c1 => ?_) (fun c1 => ?_)
  · refine lv_aload_n hx hb dX0_disconnect_13 rfl (lv_at hl 0 rfl) ?_
    refine va_get (D := D) (ci := 0) (v := .int (xw u)) (C := RX0) (T := TX0) (N := 12) hx hb hts hin hown hK hP 0 rfl rfl 9 (by decide) (hts (.fieldLink RX0 83 "ModeDesk" "warning" "Z") (by decide +kernel)) (fun _ h9 => h9) rfl dX0_disconnect_14 ?_
    refine lv_if_eq (tgt := 27) hx hb dX0_disconnect_17 (by decide) (fun c2 => ?_) (fun c2 => ?_)
    · refine lv_iconst (v := 0) hx hb dX0_disconnect_27 (by decide) ?_
      have hq1 : pX0_disconnect u = (0, u) := (by unfold pX0_disconnect; first | (rw [if_pos c1, if_pos c2]; done) | (rw [if_pos c1, if_pos c2]; rfl))
      exact W.iret (v := 0) hx hb hr (fun t ht hW => ⟨⟨0, u, rfl, ⟨hq1.symm, hI⟩, by rw [ht]; exact hP, va_K.moved hW.alike hK, hD⟩, hS.F ht⟩) hS.2.2 dX0_disconnect_28
    · refine lv_aload_n hx hb dX0_disconnect_20 rfl (lv_at hl 0 rfl) ?_
      refine lv_iconst (v := 0) hx hb dX0_disconnect_21 (by decide) ?_
      refine va_put (D := D) (ci := 0) (v := .int 0) (ty := .boolean) (C := RX0) (T := TX0) (N := 12) hx hb hts hin tyX0 tyX0_ok nmX0 hown hK hP hD hS 0 rfl rfl 9 (by decide) (hts (.fieldLink RX0 83 "ModeDesk" "warning" "Z") (by decide +kernel)) (fun _ h9 => h9) rfl (by decide +kernel) (bz_n bz0) (bz_f bz0) (Nat.le_of_ble_eq_true rfl) dX0_disconnect_22 (fun H4 locs hP hD hS => ?_)
      obtain ⟨u3, eu3⟩ : ∃ y : XS, y = xw_ u 0 := ⟨_, rfl⟩
      have hP : va_P D vwCl (wX cI cZ h u3) H4 := by rw [eu3]; exact hP
      have hD : va_D A (wX cI cZ h u3) := by rw [eu3]; exact hD
      have hIu3 : InvX u3 := by rw [eu3]; exact InvX.sw hI bz0
      refine lv_iconst (v := 1) hx hb dX0_disconnect_25 (by decide) ?_
      have hq1 : pX0_disconnect u = (1, u3) := (by subst eu3; unfold pX0_disconnect; first | (rw [if_pos c1, if_neg c2]; done) | (rw [if_pos c1, if_neg c2]; rfl))
      exact W.iret (v := 1) hx hb hr (fun t ht hW => ⟨⟨1, u3, rfl, ⟨hq1.symm, hIu3⟩, by rw [ht]; exact hP, va_K.moved hW.alike hK, hD⟩, hS.F ht⟩) hS.2.2 dX0_disconnect_26
  · refine lv_aload_n hx hb dX0_disconnect_7 rfl (lv_at hl 0 rfl) ?_
    have hFc := va_free (wc := wX cI cZ h u) hD hS hA [0, 1, 2, 3, 4, 5] rfl
    refine va_callv (va_runV (As := []) (rest := []) ⟨hx, hb, hml, hown, hts⟩ (kX0_disengageWithWarning l D cI cZ h s.heap.size u  hI) (cwV 0 hts gX0_disconnect_X0_disengageWithWarning rfl rfl rfl (by decide +kernel) ⟨Nat.le_of_ble_eq_true rfl, Nat.le_of_ble_eq_true rfl⟩) ⟨bl_W, va_recv hK hP (ci := 0) (q0 := 0) rfl rfl, pr_W hP hK hD⟩ rfl rfl hl.1 rfl (lv_room (Nat.le_of_ble_eq_true rfl)) dX0_disconnect_8 ⟨Nat.zero_le _, Nat.zero_le _⟩) hS (fun q _ h9 => hFc q h9) hFc (fun u7 t H6 locs ht hvm hw hB hz1 hk1 hS => ?_)
    obtain ⟨hP, hK, hD⟩ := af_W hB ht hvm hFc
    clear hFc hB
    obtain ⟨eu7, hIu7⟩ := hw
    refine lv_iconst (v := 2) hx hb dX0_disconnect_11 (by decide) ?_
    have hq1 : pX0_disconnect u = (2, u7) := (by subst eu7; unfold pX0_disconnect; first | (rw [if_neg c1]; done) | (rw [if_neg c1]; rfl))
    exact W.iret (v := 2) hx hb hr (fun t ht hW => ⟨⟨2, u7, rfl, ⟨hq1.symm, hIu7⟩, by rw [ht]; exact hP, va_K.moved hW.alike hK, hD⟩, hS.F ht⟩) hS.2.2 dX0_disconnect_12
def pX0_shown_79 (u : XS) (j1 j2 : Int32) : Int32 := (j2 ||| (pX0_bit j1 32))
def pX0_shown_60 (u : XS) (j1 j2 : Int32) : Int32 := if (xl u) = 1 then (pX0_shown_79 u 1 (j2 ||| (pX0_bit j1 16))) else (pX0_shown_79 u 0 (j2 ||| (pX0_bit j1 16)))
def pX0_shown_40 (u : XS) (j1 j2 : Int32) : Int32 := if (xF u (Int32.toNatClampNeg 1)) ≤ 0 then (pX0_shown_60 u 0 (j2 ||| (pX0_bit j1 8))) else (pX0_shown_60 u 1 (j2 ||| (pX0_bit j1 8)))
def pX0_shown (u : XS) : Int32 := if (xF u (Int32.toNatClampNeg 0)) ≤ 0 then (pX0_shown_40 u 0 (((pX0_bit (pX0_isOn u) 1) ||| (pX0_bit (xe u) 2)) ||| (pX0_bit (xw u) 4))) else (pX0_shown_40 u 1 (((pX0_bit (pX0_isOn u) 1) ||| (pX0_bit (xe u) 2)) ||| (pX0_bit (xw u) 4)))
set_option maxHeartbeats 4000000 in
set_option maxRecDepth 100000 in
theorem kX0_shown (l : Launch) (D : va_G) (cI cZ : ClassId) (h : Nat → Nat) (sz : Nat) (u : XS) (hI : InvX u) : Mi l yX0_shown wsX0_shown { frames := 1, cells := 0, slots := 0, locals := 21 } D (tyl cI cZ) (wX cI cZ h) sz u [.ref (h 0)] (fun r u9 => r = pX0_shown u ∧ u9 = u) := by
  refine Met.ofW (cc := cX0_shown) (maxL := 1) (ret := (some .int)) (by decide) rfl ?_
  intro p e s m args below meth c s₁ B hml hv
  obtain ⟨rfl, hsz, hP, hK, hD0⟩ := hv
  have hx := B.exec
  have hb := B.bytes
  have hr := B.returns
  have hts := atoms_spec (ws := wsX0_shown) B.pre
  have hin : ∀ w ∈ wsX00, w ∈ wsX0_shown := fun w h9 => List.mem_cons_of_mem _ (List.mem_append_right _ h9)
  have hown : s.vm.findClass RX0 = some m.cls := findClass_of_methodNamed B.named
  have hlocks := B.notSynchronized
  subst hsz
  have hD : va_D (va_A (wX cI cZ h u) s.heap.size) (wX cI cZ h u) := hD0.self (sz := s.heap.size)
  have hA : ∀ q : Nat, s.heap.size ≤ q → va_A (wX cI cZ h u) s.heap.size q := fun q h9 => Or.inr h9
  have hS : va_S (va_A (wX cI cZ h u) s.heap.size) s.heap s.heap [] := va_S.rf
  have hl := lv_entry ([.ref (h 0)]) (n := 1) (Nat.le_of_ble_eq_true rfl)
  rw [lg_entry_eq]
  generalize (lg_sl ([.ref (h 0)]) ++ List.replicate (1 - (lg_sl ([.ref (h 0)])).length) Slot.unset).toArray = ls at hl ⊢
  have hl : lv_has ls 1 [(0, .ref (h 0))] := hl
  generalize va_A (wX cI cZ h u) s.heap.size = A at hD hA hS ⊢
  have J79 : ∀  (j1 j2 : Int32) (G79 : Heap) (locs : List Loc) (ls : Array Slot), lv_has ls 1 [(0, .ref (h 0))] → va_P D vwCl (wX cI cZ h u) G79 → va_D A (wX cI cZ h u) → va_S A s.heap G79 locs → va_K D vwCl (tyl cI cZ) s → bz j1 → pX0_shown u = pX0_shown_79 u  j1 j2 → W p l e (headSpec wsX0_shown { frames := 1, cells := 0, slots := 0, locals := 21 }).room s m ([.ref (h 0)] : List Value).toArray below meth c G79 locs 0 0 (MQ below (va_Qi (fun r u9 => r = pX0_shown u ∧ u9 = u) (BW D (tyl cI cZ) A (wX cI cZ h)) A) ([.ref (h 0)] : List Value).toArray s 0 0 A) (F0 m 79 ls [.int j1, .int j2]) := by
    intro  j1 j2 G79 locs ls hl hP hD hS hK  hzj1 hq
    refine lv_bipush (v := 32) hx hb dX0_shown_79 (by decide) ?_
    refine va_calli (va_runS (As := [.int j1, .int 32]) (rest := [.int j2]) ⟨hx, hb, hml, hown, hts⟩ (kX0_bit l D (tyl cI cZ) G79.size j1 32) (va_cwS 2 hts gX0_shown_X0_bit rfl rfl rfl (by decide +kernel) ⟨Nat.le_of_ble_eq_true rfl, Nat.le_of_ble_eq_true rfl⟩) ⟨bl_W, pr_W (ws := wE ()) pE hK (dE (A := A))⟩ rfl rfl hl.1 rfl (lv_room (Nat.le_of_ble_eq_true rfl)) dX0_shown_81 ⟨Nat.zero_le _, Nat.zero_le _⟩) hS (fun q _ h9 => fr_E hS hA q h9) (fr_E hS hA) (fun r1 u9 t H2 locs ht hvm hw hB hz1 hk1 hS => ?_)
    have hP := af_E hP hk1
    have er1 := hw
    refine lv_ior hx hb dX0_shown_84 ?_
    have hq1 : pX0_shown u = (j2 ||| r1) := (by subst er1; rw [hq]; rfl)
    exact W.iret (v := (j2 ||| r1)) hx hb hr (fun t ht hW => ⟨⟨(j2 ||| r1), u, rfl, ⟨hq1.symm, rfl⟩, by rw [ht]; exact hP, va_K.moved hW.alike hK, hD⟩, hS.F ht⟩) hS.2.2 dX0_shown_85
  have J60 : ∀  (j1 j2 : Int32) (G60 : Heap) (locs : List Loc) (ls : Array Slot), lv_has ls 1 [(0, .ref (h 0))] → va_P D vwCl (wX cI cZ h u) G60 → va_D A (wX cI cZ h u) → va_S A s.heap G60 locs → va_K D vwCl (tyl cI cZ) s → bz j1 → pX0_shown u = pX0_shown_60 u  j1 j2 → W p l e (headSpec wsX0_shown { frames := 1, cells := 0, slots := 0, locals := 21 }).room s m ([.ref (h 0)] : List Value).toArray below meth c G60 locs 0 0 (MQ below (va_Qi (fun r u9 => r = pX0_shown u ∧ u9 = u) (BW D (tyl cI cZ) A (wX cI cZ h)) A) ([.ref (h 0)] : List Value).toArray s 0 0 A) (F0 m 60 ls [.int j1, .int j2]) := by
    intro  j1 j2 G60 locs ls hl hP hD hS hK  hzj1 hq
    refine lv_bipush (v := 16) hx hb dX0_shown_60 (by decide) ?_
    refine va_calli (va_runS (As := [.int j1, .int 16]) (rest := [.int j2]) ⟨hx, hb, hml, hown, hts⟩ (kX0_bit l D (tyl cI cZ) G60.size j1 16) (va_cwS 2 hts gX0_shown_X0_bit rfl rfl rfl (by decide +kernel) ⟨Nat.le_of_ble_eq_true rfl, Nat.le_of_ble_eq_true rfl⟩) ⟨bl_W, pr_W (ws := wE ()) pE hK (dE (A := A))⟩ rfl rfl hl.1 rfl (lv_room (Nat.le_of_ble_eq_true rfl)) dX0_shown_62 ⟨Nat.zero_le _, Nat.zero_le _⟩) hS (fun q _ h9 => fr_E hS hA q h9) (fr_E hS hA) (fun r3 u9 t H4 locs ht hvm hw hB hz1 hk1 hS => ?_)
    have hP := af_E hP hk1
    have er3 := hw
    refine lv_ior hx hb dX0_shown_65 ?_
    refine lv_aload_n hx hb dX0_shown_66 rfl (lv_at hl 0 rfl) ?_
    refine va_get (D := D) (ci := 0) (v := .int (xl u)) (C := RX0) (T := TX0) (N := 12) hx hb hts hin hown hK hP 0 rfl rfl 4 (by decide) (hts (.fieldLink RX0 111 "ModeDesk" "leader" "I") (by decide +kernel)) (fun _ h9 => h9) rfl dX0_shown_67 ?_
    refine lv_iconst (v := 1) hx hb dX0_shown_70 (by decide) ?_
    refine lv_icmp_ne (tgt := 78) hx hb dX0_shown_71 (by decide) (fun c5 => ?_) (fun c5 => ?_)
    · refine lv_iconst (v := 0) hx hb dX0_shown_78 (by decide) ?_
      exact J79  0 (j2 ||| r3) H4 _ _ (lv_sub hl [0] rfl) hP hD hS hK  bz0 (by subst er3; rw [hq]; unfold pX0_shown_60; first | (rw [if_neg c5]; done) | (rw [if_neg c5]; rfl))
    · refine lv_iconst (v := 1) hx hb dX0_shown_74 (by decide) ?_
      refine lv_goto (tgt := 79) hx hb dX0_shown_75 (by decide) ?_
      exact J79  1 (j2 ||| r3) H4 _ _ (lv_sub hl [0] rfl) hP hD hS hK  bz1 (by subst er3; rw [hq]; unfold pX0_shown_60; first | (rw [if_pos c5]; done) | (rw [if_pos c5]; rfl))
  have J40 : ∀  (j1 j2 : Int32) (G40 : Heap) (locs : List Loc) (ls : Array Slot), lv_has ls 1 [(0, .ref (h 0))] → va_P D vwCl (wX cI cZ h u) G40 → va_D A (wX cI cZ h u) → va_S A s.heap G40 locs → va_K D vwCl (tyl cI cZ) s → bz j1 → pX0_shown u = pX0_shown_40 u  j1 j2 → W p l e (headSpec wsX0_shown { frames := 1, cells := 0, slots := 0, locals := 21 }).room s m ([.ref (h 0)] : List Value).toArray below meth c G40 locs 0 0 (MQ below (va_Qi (fun r u9 => r = pX0_shown u ∧ u9 = u) (BW D (tyl cI cZ) A (wX cI cZ h)) A) ([.ref (h 0)] : List Value).toArray s 0 0 A) (F0 m 40 ls [.int j1, .int j2]) := by
    intro  j1 j2 G40 locs ls hl hP hD hS hK  hzj1 hq
    refine lv_bipush (v := 8) hx hb dX0_shown_40 (by decide) ?_
    refine va_calli (va_runS (As := [.int j1, .int 8]) (rest := [.int j2]) ⟨hx, hb, hml, hown, hts⟩ (kX0_bit l D (tyl cI cZ) G40.size j1 8) (va_cwS 2 hts gX0_shown_X0_bit rfl rfl rfl (by decide +kernel) ⟨Nat.le_of_ble_eq_true rfl, Nat.le_of_ble_eq_true rfl⟩) ⟨bl_W, pr_W (ws := wE ()) pE hK (dE (A := A))⟩ rfl rfl hl.1 rfl (lv_room (Nat.le_of_ble_eq_true rfl)) dX0_shown_42 ⟨Nat.zero_le _, Nat.zero_le _⟩) hS (fun q _ h9 => fr_E hS hA q h9) (fr_E hS hA) (fun r6 u9 t H7 locs ht hvm hw hB hz1 hk1 hS => ?_)
    have hP := af_E hP hk1
    have er6 := hw
    refine lv_ior hx hb dX0_shown_45 ?_
    refine lv_aload_n hx hb dX0_shown_46 rfl (lv_at hl 0 rfl) ?_
    refine va_get (D := D) (ci := 0) (v := .ref (h 2)) (C := RX0) (T := TX0) (N := 12) hx hb hts hin hown hK hP 0 rfl rfl 1 (by decide) (hts (.fieldLink RX0 13 "ModeDesk" "flashing" "[I") (by decide +kernel)) (fun _ h9 => h9) rfl dX0_shown_47 ?_
    refine lv_iconst (v := 1) hx hb dX0_shown_50 (by decide) ?_
    refine va_iald hx hb hK hP 2 0 rfl rfl (vi_c (by decide)) dX0_shown_51 ?_
    refine lv_if_le (tgt := 59) hx hb dX0_shown_52 (by decide) (fun c8 => ?_) (fun c8 => ?_)
    · refine lv_iconst (v := 0) hx hb dX0_shown_59 (by decide) ?_
      exact J60  0 (j2 ||| r6) H7 _ _ (lv_sub hl [0] rfl) hP hD hS hK  bz0 (by subst er6; rw [hq]; unfold pX0_shown_40; first | (rw [if_pos c8]; done) | (rw [if_pos c8]; rfl))
    · refine lv_iconst (v := 1) hx hb dX0_shown_55 (by decide) ?_
      refine lv_goto (tgt := 60) hx hb dX0_shown_56 (by decide) ?_
      exact J60  1 (j2 ||| r6) H7 _ _ (lv_sub hl [0] rfl) hP hD hS hK  bz1 (by subst er6; rw [hq]; unfold pX0_shown_40; first | (rw [if_neg c8]; done) | (rw [if_neg c8]; rfl))
  refine lv_aload_n hx hb dX0_shown_0 rfl (lv_at hl 0 rfl) ?_
  have hFc := va_free (wc := wX cI cZ h u) hD hS hA [0, 1, 2, 3, 4, 5] rfl
  refine va_calli (va_runV (As := []) (rest := []) ⟨hx, hb, hml, hown, hts⟩ (kX0_isOn l D cI cZ h s.heap.size u  hI) (cwV 0 hts gX0_shown_X0_isOn rfl rfl rfl (by decide +kernel) ⟨Nat.le_of_ble_eq_true rfl, Nat.le_of_ble_eq_true rfl⟩) ⟨bl_W, va_recv hK hP (ci := 0) (q0 := 0) rfl rfl, pr_W hP hK hD⟩ rfl rfl hl.1 rfl (lv_room (Nat.le_of_ble_eq_true rfl)) dX0_shown_1 ⟨Nat.zero_le _, Nat.zero_le _⟩) hS (fun q _ h9 => hFc q h9) hFc (fun r9 u11 t H10 locs ht hvm hw hB hz1 hk1 hS => ?_)
  obtain ⟨hP, hK, hD⟩ := af_W hB ht hvm hFc
  clear hFc hB
  obtain ⟨er9, eu11, br9⟩ := hw
  rw [eu11] at hP hD
  refine lv_iconst (v := 1) hx hb dX0_shown_4 (by decide) ?_
  refine va_calli (va_runS (As := [.int r9, .int 1]) (rest := []) ⟨hx, hb, hml, hown, hts⟩ (kX0_bit l D (tyl cI cZ) H10.size r9 1) (va_cwS 2 hts gX0_shown_X0_bit rfl rfl rfl (by decide +kernel) ⟨Nat.le_of_ble_eq_true rfl, Nat.le_of_ble_eq_true rfl⟩) ⟨bl_W, pr_W (ws := wE ()) pE hK (dE (A := A))⟩ rfl rfl hl.1 rfl (lv_room (Nat.le_of_ble_eq_true rfl)) dX0_shown_5 ⟨Nat.zero_le _, Nat.zero_le _⟩) hS (fun q _ h9 => fr_E hS hA q h9) (fr_E hS hA) (fun r12 u9 t H13 locs ht hvm hw hB hz1 hk1 hS => ?_)
  have hP := af_E hP hk1
  have er12 := hw
  refine lv_aload_n hx hb dX0_shown_8 rfl (lv_at hl 0 rfl) ?_
  refine va_get (D := D) (ci := 0) (v := .int (xe u)) (C := RX0) (T := TX0) (N := 12) hx hb hts hin hown hK hP 0 rfl rfl 8 (by decide) (hts (.fieldLink RX0 63 "ModeDesk" "engaged" "Z") (by decide +kernel)) (fun _ h9 => h9) rfl dX0_shown_9 ?_
  refine lv_iconst (v := 2) hx hb dX0_shown_12 (by decide) ?_
  refine va_calli (va_runS (As := [.int (xe u), .int 2]) (rest := [.int r12]) ⟨hx, hb, hml, hown, hts⟩ (kX0_bit l D (tyl cI cZ) H13.size (xe u) 2) (va_cwS 2 hts gX0_shown_X0_bit rfl rfl rfl (by decide +kernel) ⟨Nat.le_of_ble_eq_true rfl, Nat.le_of_ble_eq_true rfl⟩) ⟨bl_W, pr_W (ws := wE ()) pE hK (dE (A := A))⟩ rfl rfl hl.1 rfl (lv_room (Nat.le_of_ble_eq_true rfl)) dX0_shown_13 ⟨Nat.zero_le _, Nat.zero_le _⟩) hS (fun q _ h9 => fr_E hS hA q h9) (fr_E hS hA) (fun r14 u9 t H15 locs ht hvm hw hB hz1 hk1 hS => ?_)
  have hP := af_E hP hk1
  have er14 := hw
  refine lv_ior hx hb dX0_shown_16 ?_
  refine lv_aload_n hx hb dX0_shown_17 rfl (lv_at hl 0 rfl) ?_
  refine va_get (D := D) (ci := 0) (v := .int (xw u)) (C := RX0) (T := TX0) (N := 12) hx hb hts hin hown hK hP 0 rfl rfl 9 (by decide) (hts (.fieldLink RX0 83 "ModeDesk" "warning" "Z") (by decide +kernel)) (fun _ h9 => h9) rfl dX0_shown_18 ?_
  refine lv_iconst (v := 4) hx hb dX0_shown_21 (by decide) ?_
  refine va_calli (va_runS (As := [.int (xw u), .int 4]) (rest := [.int (r12 ||| r14)]) ⟨hx, hb, hml, hown, hts⟩ (kX0_bit l D (tyl cI cZ) H15.size (xw u) 4) (va_cwS 2 hts gX0_shown_X0_bit rfl rfl rfl (by decide +kernel) ⟨Nat.le_of_ble_eq_true rfl, Nat.le_of_ble_eq_true rfl⟩) ⟨bl_W, pr_W (ws := wE ()) pE hK (dE (A := A))⟩ rfl rfl hl.1 rfl (lv_room (Nat.le_of_ble_eq_true rfl)) dX0_shown_22 ⟨Nat.zero_le _, Nat.zero_le _⟩) hS (fun q _ h9 => fr_E hS hA q h9) (fr_E hS hA) (fun r16 u9 t H17 locs ht hvm hw hB hz1 hk1 hS => ?_)
  have hP := af_E hP hk1
  have er16 := hw
  refine lv_ior hx hb dX0_shown_25 ?_
  refine lv_aload_n hx hb dX0_shown_26 rfl (lv_at hl 0 rfl) ?_
  refine va_get (D := D) (ci := 0) (v := .ref (h 2)) (C := RX0) (T := TX0) (N := 12) hx hb hts hin hown hK hP 0 rfl rfl 1 (by decide) (hts (.fieldLink RX0 13 "ModeDesk" "flashing" "[I") (by decide +kernel)) (fun _ h9 => h9) rfl dX0_shown_27 ?_
  refine lv_iconst (v := 0) hx hb dX0_shown_30 (by decide) ?_
  refine va_iald hx hb hK hP 2 0 rfl rfl (vi_c (by decide)) dX0_shown_31 ?_
  refine lv_if_le (tgt := 39) hx hb dX0_shown_32 (by decide) (fun c18 => ?_) (fun c18 => ?_)
  · refine lv_iconst (v := 0) hx hb dX0_shown_39 (by decide) ?_
    exact J40  0 ((r12 ||| r14) ||| r16) H17 _ _ (lv_sub hl [0] rfl) hP hD hS hK  bz0 (by subst er16; subst er14; subst er12; subst er9; unfold pX0_shown; first | (rw [if_pos c18]; done) | (rw [if_pos c18]; rfl))
  · refine lv_iconst (v := 1) hx hb dX0_shown_35 (by decide) ?_
    refine lv_goto (tgt := 40) hx hb dX0_shown_36 (by decide) ?_
    exact J40  1 ((r12 ||| r14) ||| r16) H17 _ _ (lv_sub hl [0] rfl) hP hD hS hK  bz1 (by subst er16; subst er14; subst er12; subst er9; unfold pX0_shown; first | (rw [if_neg c18]; done) | (rw [if_neg c18]; rfl))
def pX0_kept (u : XS) (a1 a2 : Int32) : Int32 := if a1 < 0 then ((-1)) else (if a1 < (xc u) then (if a2 = 0 then (((xC u (Int32.toNatClampNeg a1)) &&& 1)) else (if a2 = 1 then ((((xC u (Int32.toNatClampNeg a1)) >>> ((1 : Int32) &&& 31)) &&& 7)) else (if a2 = 2 then ((((xC u (Int32.toNatClampNeg a1)) >>> ((4 : Int32) &&& 31)) &&& 7)) else (if a2 = 3 then ((((xC u (Int32.toNatClampNeg a1)) >>> ((7 : Int32) &&& 31)) &&& 1)) else ((-1)))))) else ((-1)))
set_option maxHeartbeats 4000000 in
set_option maxRecDepth 100000 in
theorem kX0_kept (l : Launch) (D : va_G) (cI cZ : ClassId) (h : Nat → Nat) (sz : Nat) (u : XS) (a1 a2 : Int32) (hI : InvX u) : Mi l yX0_kept wsX0_kept { frames := 0, cells := 0, slots := 0, locals := 0 } D (tyl cI cZ) (wX cI cZ h) sz u [.ref (h 0), .int a1, .int a2] (fun r u9 => r = pX0_kept u a1 a2 ∧ u9 = u) := by
  refine Met.ofW (cc := cX0_kept) (maxL := 4) (ret := (some .int)) (by decide) rfl ?_
  intro p e s m args below meth c s₁ B hml hv
  obtain ⟨rfl, hsz, hP, hK, hD0⟩ := hv
  have hx := B.exec
  have hb := B.bytes
  have hr := B.returns
  have hts := atoms_spec (ws := wsX0_kept) B.pre
  have hin : ∀ w ∈ wsX00, w ∈ wsX0_kept := fun w h9 => List.mem_cons_of_mem _ (List.mem_append_right _ h9)
  have hown : s.vm.findClass RX0 = some m.cls := findClass_of_methodNamed B.named
  have hlocks := B.notSynchronized
  subst hsz
  have hD : va_D (va_A (wX cI cZ h u) s.heap.size) (wX cI cZ h u) := hD0.self (sz := s.heap.size)
  have hA : ∀ q : Nat, s.heap.size ≤ q → va_A (wX cI cZ h u) s.heap.size q := fun q h9 => Or.inr h9
  have hS : va_S (va_A (wX cI cZ h u) s.heap.size) s.heap s.heap [] := va_S.rf
  have hl := lv_entry ([.ref (h 0), .int a1, .int a2]) (n := 4) (Nat.le_of_ble_eq_true rfl)
  rw [lg_entry_eq]
  generalize (lg_sl ([.ref (h 0), .int a1, .int a2]) ++ List.replicate (4 - (lg_sl ([.ref (h 0), .int a1, .int a2])).length) Slot.unset).toArray = ls at hl ⊢
  have hl : lv_has ls 4 [(0, .ref (h 0)), (1, .int a1), (2, .int a2)] := hl
  generalize va_A (wX cI cZ h u) s.heap.size = A at hD hA hS ⊢
  refine lv_iload_n hx hb dX0_kept_0 rfl (lv_at hl 1 rfl) ?_
  refine lv_if_lt (tgt := 12) hx hb dX0_kept_1 (by decide) (fun c1 => ?_) (fun c1 => ?_)
  · refine lv_iconst (v := (-1)) hx hb dX0_kept_12 (by decide) ?_
    have hq1 : pX0_kept u a1 a2 = (-1) := (by unfold pX0_kept; first | (rw [if_pos c1]; done) | (rw [if_pos c1]; rfl))
    exact W.iret (v := (-1)) hx hb hr (fun t ht hW => ⟨⟨(-1), u, rfl, ⟨hq1.symm, rfl⟩, by rw [ht]; exact hP, va_K.moved hW.alike hK, hD⟩, hS.F ht⟩) hS.2.2 dX0_kept_13
  · refine lv_iload_n hx hb dX0_kept_4 rfl (lv_at hl 1 rfl) ?_
    refine lv_aload_n hx hb dX0_kept_5 rfl (lv_at hl 0 rfl) ?_
    refine va_get (D := D) (ci := 0) (v := .int (xc u)) (C := RX0) (T := TX0) (N := 12) hx hb hts hin hown hK hP 0 rfl rfl 11 (by decide) (hts (.fieldLink RX0 115 "ModeDesk" "changeCount" "I") (by decide +kernel)) (fun _ h9 => h9) rfl dX0_kept_6 ?_
    refine lv_icmp_lt (tgt := 14) hx hb dX0_kept_9 (by decide) (fun c2 => ?_) (fun c2 => ?_)
    · refine lv_aload_n hx hb dX0_kept_14 rfl (lv_at hl 0 rfl) ?_
      refine va_get (D := D) (ci := 0) (v := .ref (h 5)) (C := RX0) (T := TX0) (N := 12) hx hb hts hin hown hK hP 0 rfl rfl 10 (by decide) (hts (.fieldLink RX0 23 "ModeDesk" "changes" "[I") (by decide +kernel)) (fun _ h9 => h9) rfl dX0_kept_15 ?_
      refine lv_iload_n hx hb dX0_kept_18 rfl (lv_at hl 1 rfl) ?_
      refine va_iald hx hb hK hP 5 0 rfl rfl (InvX.kIn2 hI c1 c2) dX0_kept_19 ?_
      refine lv_istore_n (lv' := [(3, .int (xC u (Int32.toNatClampNeg a1))), (0, .ref (h 0)), (1, .int a1), (2, .int a2)]) hx hb dX0_kept_20 rfl hl (by decide) rfl (fun ls hl => ?_)
      refine lv_iload_n hx hb dX0_kept_21 rfl (lv_at hl 3 rfl) ?_
      by_cases c3 : a2 = 0
      · refine lv_tableIn (off := 30) (tgt := 52) hx hb dX0_kept_22 (by rw [c3]; decide) (by rw [c3]; decide) (by rw [c3]; rfl) (by decide) ?_
        refine lv_iload_n hx hb dX0_kept_52 rfl (lv_at hl 0 rfl) ?_
        refine lv_iconst (v := 1) hx hb dX0_kept_53 (by decide) ?_
        refine lv_iand hx hb dX0_kept_54 ?_
        have hq1 : pX0_kept u a1 a2 = ((xC u (Int32.toNatClampNeg a1)) &&& 1) := (by unfold pX0_kept; first | (rw [if_neg c1, if_pos c2, if_pos c3]; done) | (rw [if_neg c1, if_pos c2, if_pos c3]; rfl))
        exact W.iret (v := ((xC u (Int32.toNatClampNeg a1)) &&& 1)) hx hb hr (fun t ht hW => ⟨⟨((xC u (Int32.toNatClampNeg a1)) &&& 1), u, rfl, ⟨hq1.symm, rfl⟩, by rw [ht]; exact hP, va_K.moved hW.alike hK, hD⟩, hS.F ht⟩) hS.2.2 dX0_kept_55
      · by_cases c4 : a2 = 1
        · refine lv_tableIn (off := 34) (tgt := 56) hx hb dX0_kept_22 (by rw [c4]; decide) (by rw [c4]; decide) (by rw [c4]; rfl) (by decide) ?_
          refine lv_iload_n hx hb dX0_kept_56 rfl (lv_at hl 0 rfl) ?_
          refine lv_iconst (v := 1) hx hb dX0_kept_57 (by decide) ?_
          refine lv_ishr hx hb dX0_kept_58 ?_
          refine lv_bipush (v := 7) hx hb dX0_kept_59 (by decide) ?_
          refine lv_iand hx hb dX0_kept_61 ?_
          have hq1 : pX0_kept u a1 a2 = (((xC u (Int32.toNatClampNeg a1)) >>> ((1 : Int32) &&& 31)) &&& 7) := (by unfold pX0_kept; first | (rw [if_neg c1, if_pos c2, if_neg c3, if_pos c4]; done) | (rw [if_neg c1, if_pos c2, if_neg c3, if_pos c4]; rfl))
          exact W.iret (v := (((xC u (Int32.toNatClampNeg a1)) >>> ((1 : Int32) &&& 31)) &&& 7)) hx hb hr (fun t ht hW => ⟨⟨(((xC u (Int32.toNatClampNeg a1)) >>> ((1 : Int32) &&& 31)) &&& 7), u, rfl, ⟨hq1.symm, rfl⟩, by rw [ht]; exact hP, va_K.moved hW.alike hK, hD⟩, hS.F ht⟩) hS.2.2 dX0_kept_62
        · by_cases c5 : a2 = 2
          · refine lv_tableIn (off := 41) (tgt := 63) hx hb dX0_kept_22 (by rw [c5]; decide) (by rw [c5]; decide) (by rw [c5]; rfl) (by decide) ?_
            refine lv_iload_n hx hb dX0_kept_63 rfl (lv_at hl 0 rfl) ?_
            refine lv_iconst (v := 4) hx hb dX0_kept_64 (by decide) ?_
            refine lv_ishr hx hb dX0_kept_65 ?_
            refine lv_bipush (v := 7) hx hb dX0_kept_66 (by decide) ?_
            refine lv_iand hx hb dX0_kept_68 ?_
            have hq1 : pX0_kept u a1 a2 = (((xC u (Int32.toNatClampNeg a1)) >>> ((4 : Int32) &&& 31)) &&& 7) := (by unfold pX0_kept; first | (rw [if_neg c1, if_pos c2, if_neg c3, if_neg c4, if_pos c5]; done) | (rw [if_neg c1, if_pos c2, if_neg c3, if_neg c4, if_pos c5]; rfl))
            exact W.iret (v := (((xC u (Int32.toNatClampNeg a1)) >>> ((4 : Int32) &&& 31)) &&& 7)) hx hb hr (fun t ht hW => ⟨⟨(((xC u (Int32.toNatClampNeg a1)) >>> ((4 : Int32) &&& 31)) &&& 7), u, rfl, ⟨hq1.symm, rfl⟩, by rw [ht]; exact hP, va_K.moved hW.alike hK, hD⟩, hS.F ht⟩) hS.2.2 dX0_kept_69
          · by_cases c6 : a2 = 3
            · refine lv_tableIn (off := 48) (tgt := 70) hx hb dX0_kept_22 (by rw [c6]; decide) (by rw [c6]; decide) (by rw [c6]; rfl) (by decide) ?_
              refine lv_iload_n hx hb dX0_kept_70 rfl (lv_at hl 0 rfl) ?_
              refine lv_bipush (v := 7) hx hb dX0_kept_71 (by decide) ?_
              refine lv_ishr hx hb dX0_kept_73 ?_
              refine lv_iconst (v := 1) hx hb dX0_kept_74 (by decide) ?_
              refine lv_iand hx hb dX0_kept_75 ?_
              have hq1 : pX0_kept u a1 a2 = (((xC u (Int32.toNatClampNeg a1)) >>> ((7 : Int32) &&& 31)) &&& 1) := (by unfold pX0_kept; first | (rw [if_neg c1, if_pos c2, if_neg c3, if_neg c4, if_neg c5, if_pos c6]; done) | (rw [if_neg c1, if_pos c2, if_neg c3, if_neg c4, if_neg c5, if_pos c6]; rfl))
              exact W.iret (v := (((xC u (Int32.toNatClampNeg a1)) >>> ((7 : Int32) &&& 31)) &&& 1)) hx hb hr (fun t ht hW => ⟨⟨(((xC u (Int32.toNatClampNeg a1)) >>> ((7 : Int32) &&& 31)) &&& 1), u, rfl, ⟨hq1.symm, rfl⟩, by rw [ht]; exact hP, va_K.moved hW.alike hK, hD⟩, hS.F ht⟩) hS.2.2 dX0_kept_76
            · refine lv_tableOut (tgt := 77) hx hb dX0_kept_22 (by have h0 := ti_ne c3 (n := 0) (by decide); have h1 := ti_ne c4 (n := 1) (by decide); have h2 := ti_ne c5 (n := 2) (by decide); have h3 := ti_ne c6 (n := 3) (by decide); omega) (by decide) ?_
              refine lv_iconst (v := (-1)) hx hb dX0_kept_77 (by decide) ?_
              have hq1 : pX0_kept u a1 a2 = (-1) := (by unfold pX0_kept; first | (rw [if_neg c1, if_pos c2, if_neg c3, if_neg c4, if_neg c5, if_neg c6]; done) | (rw [if_neg c1, if_pos c2, if_neg c3, if_neg c4, if_neg c5, if_neg c6]; rfl))
              exact W.iret (v := (-1)) hx hb hr (fun t ht hW => ⟨⟨(-1), u, rfl, ⟨hq1.symm, rfl⟩, by rw [ht]; exact hP, va_K.moved hW.alike hK, hD⟩, hS.F ht⟩) hS.2.2 dX0_kept_78
    · refine lv_iconst (v := (-1)) hx hb dX0_kept_12 (by decide) ?_
      have hq1 : pX0_kept u a1 a2 = (-1) := (by unfold pX0_kept; first | (rw [if_neg c1, if_neg c2]; done) | (rw [if_neg c1, if_neg c2]; rfl))
      exact W.iret (v := (-1)) hx hb hr (fun t ht hW => ⟨⟨(-1), u, rfl, ⟨hq1.symm, rfl⟩, by rw [ht]; exact hP, va_K.moved hW.alike hK, hD⟩, hS.F ht⟩) hS.2.2 dX0_kept_13
