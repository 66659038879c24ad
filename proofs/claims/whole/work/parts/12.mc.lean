def pX1_comes (u : MS) (a1 : Int32) : MS := if a1 = 1 then (if (pX1_isBad u (1 - (mr u))) = 0 then (mr_ u (1 - (mr u))) else (pX1_goOff u 1)) else (if a1 = 2 then (if (mv (pX1_lateralTo u 1 1)) = 6 then (if (mg (pX1_verticalTo (pX1_lateralTo u 1 1) 1 1)) = 0 then (mg_ (pX1_verticalTo (pX1_lateralTo u 1 1) 1 1) 0) else (if (ma (pX1_verticalTo (pX1_lateralTo u 1 1) 1 1)) = 2 then (mg_ (pX1_verticalTo (pX1_lateralTo u 1 1) 1 1) 1) else (mg_ (pX1_verticalTo (pX1_lateralTo u 1 1) 1 1) 0))) else (if (mg (pX1_lateralTo u 1 1)) = 0 then (mg_ (pX1_lateralTo u 1 1) 0) else (if (ma (pX1_lateralTo u 1 1)) = 2 then (mg_ (pX1_lateralTo u 1 1) 1) else (mg_ (pX1_lateralTo u 1 1) 0)))) else (if a1 = 3 then (pX1_verticalTo u 1 1) else (if a1 = 4 then (pX1_lateralTo (ma_ u 0) 3 1) else (if a1 = 5 then (pX1_lateralTo (ma_ u 0) 4 1) else (if a1 = 6 then (pX1_verticalTo (mg_ u 0) 6 1) else (if a1 = 7 then (pX1_verticalTo u 5 1) else (if a1 = 8 then (pX1_verticalTo u 4 1) else (if a1 = 9 then (pX1_verticalTo u 1 1) else (pX1_verticalTo u 3 1)))))))))
set_option maxHeartbeats 4000000 in
set_option maxRecDepth 100000 in
theorem kX1_comes (l : Launch) (D : va_G) (cI cZ : ClassId) (h : Nat → Nat) (sz : Nat) (u : MS) (a1 : Int32) (n : Nat) (hI : InvM n u) (hn : n ≤ 1999900) : Mv l yX1_comes wsX1_comes { frames := 3, cells := 0, slots := 0, locals := 67 } D (tyl cI cZ) (wM cI cZ h) sz u [.ref (h 0), .int a1] (fun u9 => u9 = pX1_comes u a1 ∧ InvM (n + 2) u9) := by
  refine Met.ofW (cc := cX1_comes) (maxL := 2) (ret := none) (by decide) rfl ?_
  intro p e s m args below meth c s₁ B hml hv
  obtain ⟨rfl, hsz, hP, hK, hD0⟩ := hv
  have hx := B.exec
  have hb := B.bytes
  have hr := B.returns
  have hts := atoms_spec (ws := wsX1_comes) B.pre
  have hin : ∀ w ∈ wsX10, w ∈ wsX1_comes := fun w h9 => List.mem_cons_of_mem _ (List.mem_append_right _ h9)
  have hown : s.vm.findClass RX1 = some m.cls := findClass_of_methodNamed B.named
  have hlocks := B.notSynchronized
  subst hsz
  have hD : va_D (va_A (wM cI cZ h u) s.heap.size) (wM cI cZ h u) := hD0.self (sz := s.heap.size)
  have hA : ∀ q : Nat, s.heap.size ≤ q → va_A (wM cI cZ h u) s.heap.size q := fun q h9 => Or.inr h9
  have hS : va_S (va_A (wM cI cZ h u) s.heap.size) s.heap s.heap [] := va_S.rf
  have hl := lv_entry ([.ref (h 0), .int a1]) (n := 2) (Nat.le_of_ble_eq_true rfl)
  rw [lg_entry_eq]
  generalize (lg_sl ([.ref (h 0), .int a1]) ++ List.replicate (2 - (lg_sl ([.ref (h 0), .int a1])).length) Slot.unset).toArray = ls at hl ⊢
  have hl : lv_has ls 2 [(0, .ref (h 0)), (1, .int a1)] := hl
  generalize va_A (wM cI cZ h u) s.heap.size = A at hD hA hS ⊢
  refine lv_iload_n hx hb dX1_comes_0 rfl (lv_at hl 1 rfl) ?_
  by_cases c1 : a1 = 1
  · refine lv_tableIn (off := 51) (tgt := 52) hx hb dX1_comes_1 (by rw [c1]; decide) (by rw [c1]; decide) (by rw [c1]; rfl) (by decide) ?_
    refine lv_aload_n hx hb dX1_comes_52 rfl (lv_at hl 0 rfl) ?_
    refine lv_iconst (v := 1) hx hb dX1_comes_53 (by decide) ?_
    refine lv_aload_n hx hb dX1_comes_54 rfl (lv_at hl 0 rfl) ?_
    refine va_get (D := D) (ci := 1) (v := .int (mr u)) (C := RX1) (T := TX1) (N := 15) hx hb hts hin hown hK hP 0 rfl rfl 9 (by decide) (hts (.fieldLink RX1 16 "ModeDeskModel" "leader" "I") (by decide +kernel)) (fun _ h9 => h9) rfl dX1_comes_55 ?_
    refine lv_isub hx hb dX1_comes_58 ?_
    have hFc := va_free (wc := wM cI cZ h u) hD hS hA [0, 1, 2] rfl
    refine va_calli (va_runV (As := [.int (1 - (mr u))]) (rest := []) ⟨hx, hb, hml, hown, hts⟩ (kX1_isBad l D cI cZ h s.heap.size u (1 - (mr u)) n hI (by omega)) (cwV 1 hts gX1_comes_X1_isBad rfl rfl rfl (by decide +kernel) ⟨Nat.le_of_ble_eq_true rfl, Nat.le_of_ble_eq_true rfl⟩) ⟨bl_W, va_recv hK hP (ci := 1) (q0 := 0) rfl rfl, pr_W hP hK hD⟩ rfl rfl hl.1 rfl (lv_room (Nat.le_of_ble_eq_true rfl)) dX1_comes_59 ⟨Nat.zero_le _, Nat.zero_le _⟩) hS (fun q _ h9 => hFc q h9) hFc (fun r2 u4 t H3 locs ht hvm hw hB hz1 hk1 hS => ?_)
    obtain ⟨hP, hK, hD⟩ := af_W hB ht hvm hFc
    clear hFc hB
    obtain ⟨er2, eu4, br2⟩ := hw
    rw [eu4] at hP hD
    refine lv_if_eq (tgt := 73) hx hb dX1_comes_62 (by decide) (fun c5 => ?_) (fun c5 => ?_)
    · refine lv_aload_n hx hb dX1_comes_73 rfl (lv_at hl 0 rfl) ?_
      refine lv_iconst (v := 1) hx hb dX1_comes_74 (by decide) ?_
      refine lv_aload_n hx hb dX1_comes_75 rfl (lv_at hl 0 rfl) ?_
      refine va_get (D := D) (ci := 1) (v := .int (mr u)) (C := RX1) (T := TX1) (N := 15) hx hb hts hin hown hK hP 0 rfl rfl 9 (by decide) (hts (.fieldLink RX1 16 "ModeDeskModel" "leader" "I") (by decide +kernel)) (fun _ h9 => h9) rfl dX1_comes_76 ?_
      refine lv_isub hx hb dX1_comes_79 ?_
      refine va_put (D := D) (ci := 1) (v := .int (1 - (mr u))) (ty := .int) (C := RX1) (T := TX1) (N := 15) hx hb hts hin tyX1 tyX1_ok nmX1 hown hK hP hD hS 0 rfl rfl 9 (by decide) (hts (.fieldLink RX1 16 "ModeDeskModel" "leader" "I") (by decide +kernel)) (fun _ h9 => h9) rfl (by decide +kernel) rfl rfl (Nat.le_of_ble_eq_true rfl) dX1_comes_80 (fun H7 locs hP hD hS => ?_)
      obtain ⟨u6, eu6⟩ : ∃ y : MS, y = mr_ u (1 - (mr u)) := ⟨_, rfl⟩
      have hP : va_P D vwCl (wM cI cZ h u6) H7 := by rw [eu6]; exact hP
      have hD : va_D A (wM cI cZ h u6) := by rw [eu6]; exact hD
      have hIu6 : InvM n u6 := by rw [eu6]; exact InvM.sr hI (bz_s hI.2.2.2.2.2.1)
      refine lv_goto (tgt := 219) hx hb dX1_comes_83 (by decide) ?_
      have hq1 : pX1_comes u a1 = u6 := (by subst eu6; subst er2; unfold pX1_comes; first | (rw [if_pos c1, if_pos c5]; done) | (rw [if_pos c1, if_pos c5]; rfl))
      exact W.vret hx hb hr (fun t ht hW => ⟨⟨u6, rfl, ⟨hq1.symm, (hIu6.mono (by omega))⟩, by rw [ht]; exact hP, va_K.moved hW.alike hK, hD⟩, hS.F ht⟩) hS.2.2 dX1_comes_219
    · refine lv_aload_n hx hb dX1_comes_65 rfl (lv_at hl 0 rfl) ?_
      refine lv_iconst (v := 1) hx hb dX1_comes_66 (by decide) ?_
      have hFc := va_free (wc := wM cI cZ h u) hD hS hA [0, 1, 2] rfl
      refine va_callv (va_runV (As := [.int 1]) (rest := []) ⟨hx, hb, hml, hown, hts⟩ (kX1_goOff l D cI cZ h H3.size u 1 n hI (by omega)) (cwV 1 hts gX1_comes_X1_goOff rfl rfl rfl (by decide +kernel) ⟨Nat.le_of_ble_eq_true rfl, Nat.le_of_ble_eq_true rfl⟩) ⟨bl_W, va_recv hK hP (ci := 1) (q0 := 0) rfl rfl, pr_W hP hK hD⟩ rfl rfl hl.1 rfl (lv_room (Nat.le_of_ble_eq_true rfl)) dX1_comes_67 ⟨Nat.zero_le _, Nat.zero_le _⟩) hS (fun q _ h9 => hFc q h9) hFc (fun u10 t H9 locs ht hvm hw hB hz1 hk1 hS => ?_)
      obtain ⟨hP, hK, hD⟩ := af_W hB ht hvm hFc
      clear hFc hB
      obtain ⟨eu10, hIu10⟩ := hw
      refine lv_goto (tgt := 219) hx hb dX1_comes_70 (by decide) ?_
      have hq1 : pX1_comes u a1 = u10 := (by subst eu10; subst er2; unfold pX1_comes; first | (rw [if_pos c1, if_neg c5]; done) | (rw [if_pos c1, if_neg c5]; rfl))
      exact W.vret hx hb hr (fun t ht hW => ⟨⟨u10, rfl, ⟨hq1.symm, hIu10⟩, by rw [ht]; exact hP, va_K.moved hW.alike hK, hD⟩, hS.F ht⟩) hS.2.2 dX1_comes_219
  · by_cases c11 : a1 = 2
    · refine lv_tableIn (off := 85) (tgt := 86) hx hb dX1_comes_1 (by rw [c11]; decide) (by rw [c11]; decide) (by rw [c11]; rfl) (by decide) ?_
      refine lv_aload_n hx hb dX1_comes_86 rfl (lv_at hl 0 rfl) ?_
      refine lv_iconst (v := 1) hx hb dX1_comes_87 (by decide) ?_
      refine lv_iconst (v := 1) hx hb dX1_comes_88 (by decide) ?_
      have hFc := va_free (wc := wM cI cZ h u) hD hS hA [0, 1, 2] rfl
      refine va_callv (va_runV (As := [.int 1, .int 1]) (rest := []) ⟨hx, hb, hml, hown, hts⟩ (kX1_lateralTo l D cI cZ h s.heap.size u 1 1 n hI (by omega)) (cwV 2 hts gX1_comes_X1_lateralTo rfl rfl rfl (by decide +kernel) ⟨Nat.le_of_ble_eq_true rfl, Nat.le_of_ble_eq_true rfl⟩) ⟨bl_W, va_recv hK hP (ci := 1) (q0 := 0) rfl rfl, pr_W hP hK hD⟩ rfl rfl hl.1 rfl (lv_room (Nat.le_of_ble_eq_true rfl)) dX1_comes_89 ⟨Nat.zero_le _, Nat.zero_le _⟩) hS (fun q _ h9 => hFc q h9) hFc (fun u14 t H13 locs ht hvm hw hB hz1 hk1 hS => ?_)
      obtain ⟨hP, hK, hD⟩ := af_W hB ht hvm hFc
      clear hFc hB
      obtain ⟨eu14, hIu14⟩ := hw
      refine lv_aload_n hx hb dX1_comes_92 rfl (lv_at hl 0 rfl) ?_
      refine va_get (D := D) (ci := 1) (v := .int (mv u14)) (C := RX1) (T := TX1) (N := 15) hx hb hts hin hown hK hP 0 rfl rfl 2 (by decide) (hts (.fieldLink RX1 36 "ModeDeskModel" "vertical" "I") (by decide +kernel)) (fun _ h9 => h9) rfl dX1_comes_93 ?_
      refine lv_bipush (v := 6) hx hb dX1_comes_96 (by decide) ?_
      refine lv_icmp_ne (tgt := 107) hx hb dX1_comes_98 (by decide) (fun c15 => ?_) (fun c15 => ?_)
      · refine lv_aload_n hx hb dX1_comes_107 rfl (lv_at hl 0 rfl) ?_
        refine lv_aload_n hx hb dX1_comes_108 rfl (lv_at hl 0 rfl) ?_
        refine va_get (D := D) (ci := 1) (v := .int (mg u14)) (C := RX1) (T := TX1) (N := 15) hx hb hts hin hown hK hP 0 rfl rfl 4 (by decide) (hts (.fieldLink RX1 45 "ModeDeskModel" "armedGlide" "Z") (by decide +kernel)) (fun _ h9 => h9) rfl dX1_comes_109 ?_
        refine lv_if_eq (tgt := 127) hx hb dX1_comes_112 (by decide) (fun c16 => ?_) (fun c16 => ?_)
        · refine lv_iconst (v := 0) hx hb dX1_comes_127 (by decide) ?_
          refine va_put (D := D) (ci := 1) (v := .int 0) (ty := .boolean) (C := RX1) (T := TX1) (N := 15) hx hb hts hin tyX1 tyX1_ok nmX1 hown hK hP hD hS 0 rfl rfl 4 (by decide) (hts (.fieldLink RX1 45 "ModeDeskModel" "armedGlide" "Z") (by decide +kernel)) (fun _ h9 => h9) rfl (by decide +kernel) (bz_n bz0) (bz_f bz0) (Nat.le_of_ble_eq_true rfl) dX1_comes_128 (fun H18 locs hP hD hS => ?_)
          obtain ⟨u17, eu17⟩ : ∃ y : MS, y = mg_ u14 0 := ⟨_, rfl⟩
          have hP : va_P D vwCl (wM cI cZ h u17) H18 := by rw [eu17]; exact hP
          have hD : va_D A (wM cI cZ h u17) := by rw [eu17]; exact hD
          have hIu17 : InvM (n + 1) u17 := by rw [eu17]; exact InvM.sg hIu14 bz0
          refine lv_goto (tgt := 219) hx hb dX1_comes_131 (by decide) ?_
          have hq1 : pX1_comes u a1 = u17 := (by subst eu17; subst eu14; unfold pX1_comes; first | (rw [if_neg c1, if_pos c11, if_neg c15, if_pos c16]; done) | (rw [if_neg c1, if_pos c11, if_neg c15, if_pos c16]; rfl))
          exact W.vret hx hb hr (fun t ht hW => ⟨⟨u17, rfl, ⟨hq1.symm, (hIu17.mono (by omega))⟩, by rw [ht]; exact hP, va_K.moved hW.alike hK, hD⟩, hS.F ht⟩) hS.2.2 dX1_comes_219
        · refine lv_aload_n hx hb dX1_comes_115 rfl (lv_at hl 0 rfl) ?_
          refine va_get (D := D) (ci := 1) (v := .int (ma u14)) (C := RX1) (T := TX1) (N := 15) hx hb hts hin hown hK hP 0 rfl rfl 3 (by decide) (hts (.fieldLink RX1 42 "ModeDeskModel" "armedLateral" "I") (by decide +kernel)) (fun _ h9 => h9) rfl dX1_comes_116 ?_
          refine lv_iconst (v := 2) hx hb dX1_comes_119 (by decide) ?_
          refine lv_icmp_ne (tgt := 127) hx hb dX1_comes_120 (by decide) (fun c19 => ?_) (fun c19 => ?_)
          · refine lv_iconst (v := 0) hx hb dX1_comes_127 (by decide) ?_
            refine va_put (D := D) (ci := 1) (v := .int 0) (ty := .boolean) (C := RX1) (T := TX1) (N := 15) hx hb hts hin tyX1 tyX1_ok nmX1 hown hK hP hD hS 0 rfl rfl 4 (by decide) (hts (.fieldLink RX1 45 "ModeDeskModel" "armedGlide" "Z") (by decide +kernel)) (fun _ h9 => h9) rfl (by decide +kernel) (bz_n bz0) (bz_f bz0) (Nat.le_of_ble_eq_true rfl) dX1_comes_128 (fun H21 locs hP hD hS => ?_)
            obtain ⟨u20, eu20⟩ : ∃ y : MS, y = mg_ u14 0 := ⟨_, rfl⟩
            have hP : va_P D vwCl (wM cI cZ h u20) H21 := by rw [eu20]; exact hP
            have hD : va_D A (wM cI cZ h u20) := by rw [eu20]; exact hD
            have hIu20 : InvM (n + 1) u20 := by rw [eu20]; exact InvM.sg hIu14 bz0
            refine lv_goto (tgt := 219) hx hb dX1_comes_131 (by decide) ?_
            have hq1 : pX1_comes u a1 = u20 := (by subst eu20; subst eu14; unfold pX1_comes; first | (rw [if_neg c1, if_pos c11, if_neg c15, if_neg c16, if_neg c19]; done) | (rw [if_neg c1, if_pos c11, if_neg c15, if_neg c16, if_neg c19]; rfl))
            exact W.vret hx hb hr (fun t ht hW => ⟨⟨u20, rfl, ⟨hq1.symm, (hIu20.mono (by omega))⟩, by rw [ht]; exact hP, va_K.moved hW.alike hK, hD⟩, hS.F ht⟩) hS.2.2 dX1_comes_219
          · refine lv_iconst (v := 1) hx hb dX1_comes_123 (by decide) ?_
            refine lv_goto (tgt := 128) hx hb dX1_comes_124 (by decide) ?_
            refine va_put (D := D) (ci := 1) (v := .int 1) (ty := .boolean) (C := RX1) (T := TX1) (N := 15) hx hb hts hin tyX1 tyX1_ok nmX1 hown hK hP hD hS 0 rfl rfl 4 (by decide) (hts (.fieldLink RX1 45 "ModeDeskModel" "armedGlide" "Z") (by decide +kernel)) (fun _ h9 => h9) rfl (by decide +kernel) (bz_n bz1) (bz_f bz1) (Nat.le_of_ble_eq_true rfl) dX1_comes_128 (fun H23 locs hP hD hS => ?_)
            obtain ⟨u22, eu22⟩ : ∃ y : MS, y = mg_ u14 1 := ⟨_, rfl⟩
            have hP : va_P D vwCl (wM cI cZ h u22) H23 := by rw [eu22]; exact hP
            have hD : va_D A (wM cI cZ h u22) := by rw [eu22]; exact hD
            have hIu22 : InvM (n + 1) u22 := by rw [eu22]; exact InvM.sg hIu14 bz1
            refine lv_goto (tgt := 219) hx hb dX1_comes_131 (by decide) ?_
            have hq1 : pX1_comes u a1 = u22 := (by subst eu22; subst eu14; unfold pX1_comes; first | (rw [if_neg c1, if_pos c11, if_neg c15, if_neg c16, if_pos c19]; done) | (rw [if_neg c1, if_pos c11, if_neg c15, if_neg c16, if_pos c19]; rfl))
            exact W.vret hx hb hr (fun t ht hW => ⟨⟨u22, rfl, ⟨hq1.symm, (hIu22.mono (by omega))⟩, by rw [ht]; exact hP, va_K.moved hW.alike hK, hD⟩, hS.F ht⟩) hS.2.2 dX1_comes_219
      · refine lv_aload_n hx hb dX1_comes_101 rfl (lv_at hl 0 rfl) ?_
        refine lv_iconst (v := 1) hx hb dX1_comes_102 (by decide) ?_
        refine lv_iconst (v := 1) hx hb dX1_comes_103 (by decide) ?_
        have hFc := va_free (wc := wM cI cZ h u14) hD hS hA [0, 1, 2] rfl
        refine va_callv (va_runV (As := [.int 1, .int 1]) (rest := []) ⟨hx, hb, hml, hown, hts⟩ (kX1_verticalTo l D cI cZ h H13.size u14 1 1 (n + 1) hIu14 (by omega)) (cwV 2 hts gX1_comes_X1_verticalTo rfl rfl rfl (by decide +kernel) ⟨Nat.le_of_ble_eq_true rfl, Nat.le_of_ble_eq_true rfl⟩) ⟨bl_W, va_recv hK hP (ci := 1) (q0 := 0) rfl rfl, pr_W hP hK hD⟩ rfl rfl hl.1 rfl (lv_room (Nat.le_of_ble_eq_true rfl)) dX1_comes_104 ⟨Nat.zero_le _, Nat.zero_le _⟩) hS (fun q _ h9 => hFc q h9) hFc (fun u26 t H25 locs ht hvm hw hB hz1 hk1 hS => ?_)
        obtain ⟨hP, hK, hD⟩ := af_W hB ht hvm hFc
        clear hFc hB
        obtain ⟨eu26, hIu26⟩ := hw
        have hIu26 : InvM (n + 2) u26 := hIu26.mono (by omega)
        refine lv_aload_n hx hb dX1_comes_107 rfl (lv_at hl 0 rfl) ?_
        refine lv_aload_n hx hb dX1_comes_108 rfl (lv_at hl 0 rfl) ?_
        refine va_get (D := D) (ci := 1) (v := .int (mg u26)) (C := RX1) (T := TX1) (N := 15) hx hb hts hin hown hK hP 0 rfl rfl 4 (by decide) (hts (.fieldLink RX1 45 "ModeDeskModel" "armedGlide" "Z") (by decide +kernel)) (fun _ h9 => h9) rfl dX1_comes_109 ?_
        refine lv_if_eq (tgt := 127) hx hb dX1_comes_112 (by decide) (fun c27 => ?_) (fun c27 => ?_)
        · refine lv_iconst (v := 0) hx hb dX1_comes_127 (by decide) ?_
          refine va_put (D := D) (ci := 1) (v := .int 0) (ty := .boolean) (C := RX1) (T := TX1) (N := 15) hx hb hts hin tyX1 tyX1_ok nmX1 hown hK hP hD hS 0 rfl rfl 4 (by decide) (hts (.fieldLink RX1 45 "ModeDeskModel" "armedGlide" "Z") (by decide +kernel)) (fun _ h9 => h9) rfl (by decide +kernel) (bz_n bz0) (bz_f bz0) (Nat.le_of_ble_eq_true rfl) dX1_comes_128 (fun H29 locs hP hD hS => ?_)
          obtain ⟨u28, eu28⟩ : ∃ y : MS, y = mg_ u26 0 := ⟨_, rfl⟩
          have hP : va_P D vwCl (wM cI cZ h u28) H29 := by rw [eu28]; exact hP
          have hD : va_D A (wM cI cZ h u28) := by rw [eu28]; exact hD
          have hIu28 : InvM (n + 2) u28 := by rw [eu28]; exact InvM.sg hIu26 bz0
          refine lv_goto (tgt := 219) hx hb dX1_comes_131 (by decide) ?_
          have hq1 : pX1_comes u a1 = u28 := (by subst eu28; subst eu26; subst eu14; unfold pX1_comes; first | (rw [if_neg c1, if_pos c11, if_pos c15, if_pos c27]; done) | (rw [if_neg c1, if_pos c11, if_pos c15, if_pos c27]; rfl))
          exact W.vret hx hb hr (fun t ht hW => ⟨⟨u28, rfl, ⟨hq1.symm, hIu28⟩, by rw [ht]; exact hP, va_K.moved hW.alike hK, hD⟩, hS.F ht⟩) hS.2.2 dX1_comes_219
        · refine lv_aload_n hx hb dX1_comes_115 rfl (lv_at hl 0 rfl) ?_
          refine va_get (D := D) (ci := 1) (v := .int (ma u26)) (C := RX1) (T := TX1) (N := 15) hx hb hts hin hown hK hP 0 rfl rfl 3 (by decide) (hts (.fieldLink RX1 42 "ModeDeskModel" "armedLateral" "I") (by decide +kernel)) (fun _ h9 => h9) rfl dX1_comes_116 ?_
          refine lv_iconst (v := 2) hx hb dX1_comes_119 (by decide) ?_
          refine lv_icmp_ne (tgt := 127) hx hb dX1_comes_120 (by decide) (fun c30 => ?_) (fun c30 => ?_)
          · refine lv_iconst (v := 0) hx hb dX1_comes_127 (by decide) ?_
            refine va_put (D := D) (ci := 1) (v := .int 0) (ty := .boolean) (C := RX1) (T := TX1) (N := 15) hx hb hts hin tyX1 tyX1_ok nmX1 hown hK hP hD hS 0 rfl rfl 4 (by decide) (hts (.fieldLink RX1 45 "ModeDeskModel" "armedGlide" "Z") (by decide +kernel)) (fun _ h9 => h9) rfl (by decide +kernel) (bz_n bz0) (bz_f bz0) (Nat.le_of_ble_eq_true rfl) dX1_comes_128 (fun H32 locs hP hD hS => ?_)
            obtain ⟨u31, eu31⟩ : ∃ y : MS, y = mg_ u26 0 := ⟨_, rfl⟩
            have hP : va_P D vwCl (wM cI cZ h u31) H32 := by rw [eu31]; exact hP
            have hD : va_D A (wM cI cZ h u31) := by rw [eu31]; exact hD
            have hIu31 : InvM (n + 2) u31 := by rw [eu31]; exact InvM.sg hIu26 bz0
            refine lv_goto (tgt := 219) hx hb dX1_comes_131 (by decide) ?_
            have hq1 : pX1_comes u a1 = u31 := (by subst eu31; subst eu26; subst eu14; unfold pX1_comes; first | (rw [if_neg c1, if_pos c11, if_pos c15, if_neg c27, if_neg c30]; done) | (rw [if_neg c1, if_pos c11, if_pos c15, if_neg c27, if_neg c30]; rfl))
            exact W.vret hx hb hr (fun t ht hW => ⟨⟨u31, rfl, ⟨hq1.symm, hIu31⟩, by rw [ht]; exact hP, va_K.moved hW.alike hK, hD⟩, hS.F ht⟩) hS.2.2 dX1_comes_219
          · refine lv_iconst (v := 1) hx hb dX1_comes_123 (by decide) ?_
            refine lv_goto (tgt := 128) hx hb dX1_comes_124 (by decide) ?_
            refine va_put (D := D) (ci := 1) (v := .int 1) (ty := .boolean) (C := RX1) (T := TX1) (N := 15) hx hb hts hin tyX1 tyX1_ok nmX1 hown hK hP hD hS 0 rfl rfl 4 (by decide) (hts (.fieldLink RX1 45 "ModeDeskModel" "armedGlide" "Z") (by decide +kernel)) (fun _ h9 => h9) rfl (by decide +kernel) (bz_n bz1) (bz_f bz1) (Nat.le_of_ble_eq_true rfl) dX1_comes_128 (fun H34 locs hP hD hS => ?_)
            obtain ⟨u33, eu33⟩ : ∃ y : MS, y = mg_ u26 1 := ⟨_, rfl⟩
            have hP : va_P D vwCl (wM cI cZ h u33) H34 := by rw [eu33]; exact hP
            have hD : va_D A (wM cI cZ h u33) := by rw [eu33]; exact hD
            have hIu33 : InvM (n + 2) u33 := by rw [eu33]; exact InvM.sg hIu26 bz1
            refine lv_goto (tgt := 219) hx hb dX1_comes_131 (by decide) ?_
            have hq1 : pX1_comes u a1 = u33 := (by subst eu33; subst eu26; subst eu14; unfold pX1_comes; first | (rw [if_neg c1, if_pos c11, if_pos c15, if_neg c27, if_pos c30]; done) | (rw [if_neg c1, if_pos c11, if_pos c15, if_neg c27, if_pos c30]; rfl))
            exact W.vret hx hb hr (fun t ht hW => ⟨⟨u33, rfl, ⟨hq1.symm, hIu33⟩, by rw [ht]; exact hP, va_K.moved hW.alike hK, hD⟩, hS.F ht⟩) hS.2.2 dX1_comes_219
    · by_cases c35 : a1 = 3
      · refine lv_tableIn (off := 133) (tgt := 134) hx hb dX1_comes_1 (by rw [c35]; decide) (by rw [c35]; decide) (by rw [c35]; rfl) (by decide) ?_
        refine lv_aload_n hx hb dX1_comes_134 rfl (lv_at hl 0 rfl) ?_
        refine lv_iconst (v := 1) hx hb dX1_comes_135 (by decide) ?_
        refine lv_iconst (v := 1) hx hb dX1_comes_136 (by decide) ?_
        have hFc := va_free (wc := wM cI cZ h u) hD hS hA [0, 1, 2] rfl
        refine va_callv (va_runV (As := [.int 1, .int 1]) (rest := []) ⟨hx, hb, hml, hown, hts⟩ (kX1_verticalTo l D cI cZ h s.heap.size u 1 1 n hI (by omega)) (cwV 2 hts gX1_comes_X1_verticalTo rfl rfl rfl (by decide +kernel) ⟨Nat.le_of_ble_eq_true rfl, Nat.le_of_ble_eq_true rfl⟩) ⟨bl_W, va_recv hK hP (ci := 1) (q0 := 0) rfl rfl, pr_W hP hK hD⟩ rfl rfl hl.1 rfl (lv_room (Nat.le_of_ble_eq_true rfl)) dX1_comes_137 ⟨Nat.zero_le _, Nat.zero_le _⟩) hS (fun q _ h9 => hFc q h9) hFc (fun u38 t H37 locs ht hvm hw hB hz1 hk1 hS => ?_)
        obtain ⟨hP, hK, hD⟩ := af_W hB ht hvm hFc
        clear hFc hB
        obtain ⟨eu38, hIu38⟩ := hw
        refine lv_goto (tgt := 219) hx hb dX1_comes_140 (by decide) ?_
        have hq1 : pX1_comes u a1 = u38 := (by subst eu38; unfold pX1_comes; first | (rw [if_neg c1, if_neg c11, if_pos c35]; done) | (rw [if_neg c1, if_neg c11, if_pos c35]; rfl))
        exact W.vret hx hb hr (fun t ht hW => ⟨⟨u38, rfl, ⟨hq1.symm, (hIu38.mono (by omega))⟩, by rw [ht]; exact hP, va_K.moved hW.alike hK, hD⟩, hS.F ht⟩) hS.2.2 dX1_comes_219
      · by_cases c39 : a1 = 4
        · refine lv_tableIn (off := 142) (tgt := 143) hx hb dX1_comes_1 (by rw [c39]; decide) (by rw [c39]; decide) (by rw [c39]; rfl) (by decide) ?_
          refine lv_aload_n hx hb dX1_comes_143 rfl (lv_at hl 0 rfl) ?_
          refine lv_iconst (v := 0) hx hb dX1_comes_144 (by decide) ?_
          refine va_put (D := D) (ci := 1) (v := .int 0) (ty := .int) (C := RX1) (T := TX1) (N := 15) hx hb hts hin tyX1 tyX1_ok nmX1 hown hK hP hD hS 0 rfl rfl 3 (by decide) (hts (.fieldLink RX1 42 "ModeDeskModel" "armedLateral" "I") (by decide +kernel)) (fun _ h9 => h9) rfl (by decide +kernel) rfl rfl (Nat.le_of_ble_eq_true rfl) dX1_comes_145 (fun H41 locs hP hD hS => ?_)
          obtain ⟨u40, eu40⟩ : ∃ y : MS, y = ma_ u 0 := ⟨_, rfl⟩
          have hP : va_P D vwCl (wM cI cZ h u40) H41 := by rw [eu40]; exact hP
          have hD : va_D A (wM cI cZ h u40) := by rw [eu40]; exact hD
          have hIu40 : InvM n u40 := by rw [eu40]; exact InvM.sa hI _
          refine lv_aload_n hx hb dX1_comes_148 rfl (lv_at hl 0 rfl) ?_
          refine lv_iconst (v := 3) hx hb dX1_comes_149 (by decide) ?_
          refine lv_iconst (v := 1) hx hb dX1_comes_150 (by decide) ?_
          have hFc := va_free (wc := wM cI cZ h u40) hD hS hA [0, 1, 2] rfl
          refine va_callv (va_runV (As := [.int 3, .int 1]) (rest := []) ⟨hx, hb, hml, hown, hts⟩ (kX1_lateralTo l D cI cZ h H41.size u40 3 1 n hIu40 (by omega)) (cwV 2 hts gX1_comes_X1_lateralTo rfl rfl rfl (by decide +kernel) ⟨Nat.le_of_ble_eq_true rfl, Nat.le_of_ble_eq_true rfl⟩) ⟨bl_W, va_recv hK hP (ci := 1) (q0 := 0) rfl rfl, pr_W hP hK hD⟩ rfl rfl hl.1 rfl (lv_room (Nat.le_of_ble_eq_true rfl)) dX1_comes_151 ⟨Nat.zero_le _, Nat.zero_le _⟩) hS (fun q _ h9 => hFc q h9) hFc (fun u44 t H43 locs ht hvm hw hB hz1 hk1 hS => ?_)
          obtain ⟨hP, hK, hD⟩ := af_W hB ht hvm hFc
          clear hFc hB
          obtain ⟨eu44, hIu44⟩ := hw
          refine lv_goto (tgt := 219) hx hb dX1_comes_154 (by decide) ?_
          have hq1 : pX1_comes u a1 = u44 := (by subst eu44; subst eu40; unfold pX1_comes; first | (rw [if_neg c1, if_neg c11, if_neg c35, if_pos c39]; done) | (rw [if_neg c1, if_neg c11, if_neg c35, if_pos c39]; rfl))
          exact W.vret hx hb hr (fun t ht hW => ⟨⟨u44, rfl, ⟨hq1.symm, (hIu44.mono (by omega))⟩, by rw [ht]; exact hP, va_K.moved hW.alike hK, hD⟩, hS.F ht⟩) hS.2.2 dX1_comes_219
        · by_cases c45 : a1 = 5
          · refine lv_tableIn (off := 156) (tgt := 157) hx hb dX1_comes_1 (by rw [c45]; decide) (by rw [c45]; decide) (by rw [c45]; rfl) (by decide) ?_
            refine lv_aload_n hx hb dX1_comes_157 rfl (lv_at hl 0 rfl) ?_
            refine lv_iconst (v := 0) hx hb dX1_comes_158 (by decide) ?_
            refine va_put (D := D) (ci := 1) (v := .int 0) (ty := .int) (C := RX1) (T := TX1) (N := 15) hx hb hts hin tyX1 tyX1_ok nmX1 hown hK hP hD hS 0 rfl rfl 3 (by decide) (hts (.fieldLink RX1 42 "ModeDeskModel" "armedLateral" "I") (by decide +kernel)) (fun _ h9 => h9) rfl (by decide +kernel) rfl rfl (Nat.le_of_ble_eq_true rfl) dX1_comes_159 (fun H47 locs hP hD hS => ?_)
            obtain ⟨u46, eu46⟩ : ∃ y : MS, y = ma_ u 0 := ⟨_, rfl⟩
            have hP : va_P D vwCl (wM cI cZ h u46) H47 := by rw [eu46]; exact hP
            have hD : va_D A (wM cI cZ h u46) := by rw [eu46]; exact hD
            have hIu46 : InvM n u46 := by rw [eu46]; exact InvM.sa hI _
            refine lv_aload_n hx hb dX1_comes_162 rfl (lv_at hl 0 rfl) ?_
            refine lv_iconst (v := 4) hx hb dX1_comes_163 (by decide) ?_
            refine lv_iconst (v := 1) hx hb dX1_comes_164 (by decide) ?_
            have hFc := va_free (wc := wM cI cZ h u46) hD hS hA [0, 1, 2] rfl
            refine va_callv (va_runV (As := [.int 4, .int 1]) (rest := []) ⟨hx, hb, hml, hown, hts⟩ (kX1_lateralTo l D cI cZ h H47.size u46 4 1 n hIu46 (by omega)) (cwV 2 hts gX1_comes_X1_lateralTo rfl rfl rfl (by decide +kernel) ⟨Nat.le_of_ble_eq_true rfl, Nat.le_of_ble_eq_true rfl⟩) ⟨bl_W, va_recv hK hP (ci := 1) (q0 := 0) rfl rfl, pr_W hP hK hD⟩ rfl rfl hl.1 rfl (lv_room (Nat.le_of_ble_eq_true rfl)) dX1_comes_165 ⟨Nat.zero_le _, Nat.zero_le _⟩) hS (fun q _ h9 => hFc q h9) hFc (fun u50 t H49 locs ht hvm hw hB hz1 hk1 hS => ?_)
            obtain ⟨hP, hK, hD⟩ := af_W hB ht hvm hFc
            clear hFc hB
            obtain ⟨eu50, hIu50⟩ := hw
            refine lv_goto (tgt := 219) hx hb dX1_comes_168 (by decide) ?_
            have hq1 : pX1_comes u a1 = u50 := (by subst eu50; subst eu46; unfold pX1_comes; first | (rw [if_neg c1, if_neg c11, if_neg c35, if_neg c39, if_pos c45]; done) | (rw [if_neg c1, if_neg c11, if_neg c35, if_neg c39, if_pos c45]; rfl))
            exact W.vret hx hb hr (fun t ht hW => ⟨⟨u50, rfl, ⟨hq1.symm, (hIu50.mono (by omega))⟩, by rw [ht]; exact hP, va_K.moved hW.alike hK, hD⟩, hS.F ht⟩) hS.2.2 dX1_comes_219
          · by_cases c51 : a1 = 6
            · refine lv_tableIn (off := 170) (tgt := 171) hx hb dX1_comes_1 (by rw [c51]; decide) (by rw [c51]; decide) (by rw [c51]; rfl) (by decide) ?_
              refine lv_aload_n hx hb dX1_comes_171 rfl (lv_at hl 0 rfl) ?_
              refine lv_iconst (v := 0) hx hb dX1_comes_172 (by decide) ?_
              refine va_put (D := D) (ci := 1) (v := .int 0) (ty := .boolean) (C := RX1) (T := TX1) (N := 15) hx hb hts hin tyX1 tyX1_ok nmX1 hown hK hP hD hS 0 rfl rfl 4 (by decide) (hts (.fieldLink RX1 45 "ModeDeskModel" "armedGlide" "Z") (by decide +kernel)) (fun _ h9 => h9) rfl (by decide +kernel) (bz_n bz0) (bz_f bz0) (Nat.le_of_ble_eq_true rfl) dX1_comes_173 (fun H53 locs hP hD hS => ?_)
              obtain ⟨u52, eu52⟩ : ∃ y : MS, y = mg_ u 0 := ⟨_, rfl⟩
              have hP : va_P D vwCl (wM cI cZ h u52) H53 := by rw [eu52]; exact hP
              have hD : va_D A (wM cI cZ h u52) := by rw [eu52]; exact hD
              have hIu52 : InvM n u52 := by rw [eu52]; exact InvM.sg hI bz0
              refine lv_aload_n hx hb dX1_comes_176 rfl (lv_at hl 0 rfl) ?_
              refine lv_bipush (v := 6) hx hb dX1_comes_177 (by decide) ?_
              refine lv_iconst (v := 1) hx hb dX1_comes_179 (by decide) ?_
              have hFc := va_free (wc := wM cI cZ h u52) hD hS hA [0, 1, 2] rfl
              refine va_callv (va_runV (As := [.int 6, .int 1]) (rest := []) ⟨hx, hb, hml, hown, hts⟩ (kX1_verticalTo l D cI cZ h H53.size u52 6 1 n hIu52 (by omega)) (cwV 2 hts gX1_comes_X1_verticalTo rfl rfl rfl (by decide +kernel) ⟨Nat.le_of_ble_eq_true rfl, Nat.le_of_ble_eq_true rfl⟩) ⟨bl_W, va_recv hK hP (ci := 1) (q0 := 0) rfl rfl, pr_W hP hK hD⟩ rfl rfl hl.1 rfl (lv_room (Nat.le_of_ble_eq_true rfl)) dX1_comes_180 ⟨Nat.zero_le _, Nat.zero_le _⟩) hS (fun q _ h9 => hFc q h9) hFc (fun u56 t H55 locs ht hvm hw hB hz1 hk1 hS => ?_)
              obtain ⟨hP, hK, hD⟩ := af_W hB ht hvm hFc
              clear hFc hB
              obtain ⟨eu56, hIu56⟩ := hw
              refine lv_goto (tgt := 219) hx hb dX1_comes_183 (by decide) ?_
              have hq1 : pX1_comes u a1 = u56 := (by subst eu56; subst eu52; unfold pX1_comes; first | (rw [if_neg c1, if_neg c11, if_neg c35, if_neg c39, if_neg c45, if_pos c51]; done) | (rw [if_neg c1, if_neg c11, if_neg c35, if_neg c39, if_neg c45, if_pos c51]; rfl))
              exact W.vret hx hb hr (fun t ht hW => ⟨⟨u56, rfl, ⟨hq1.symm, (hIu56.mono (by omega))⟩, by rw [ht]; exact hP, va_K.moved hW.alike hK, hD⟩, hS.F ht⟩) hS.2.2 dX1_comes_219
            · by_cases c57 : a1 = 7
              · refine lv_tableIn (off := 185) (tgt := 186) hx hb dX1_comes_1 (by rw [c57]; decide) (by rw [c57]; decide) (by rw [c57]; rfl) (by decide) ?_
                refine lv_aload_n hx hb dX1_comes_186 rfl (lv_at hl 0 rfl) ?_
                refine lv_iconst (v := 5) hx hb dX1_comes_187 (by decide) ?_
                refine lv_iconst (v := 1) hx hb dX1_comes_188 (by decide) ?_
                have hFc := va_free (wc := wM cI cZ h u) hD hS hA [0, 1, 2] rfl
                refine va_callv (va_runV (As := [.int 5, .int 1]) (rest := []) ⟨hx, hb, hml, hown, hts⟩ (kX1_verticalTo l D cI cZ h s.heap.size u 5 1 n hI (by omega)) (cwV 2 hts gX1_comes_X1_verticalTo rfl rfl rfl (by decide +kernel) ⟨Nat.le_of_ble_eq_true rfl, Nat.le_of_ble_eq_true rfl⟩) ⟨bl_W, va_recv hK hP (ci := 1) (q0 := 0) rfl rfl, pr_W hP hK hD⟩ rfl rfl hl.1 rfl (lv_room (Nat.le_of_ble_eq_true rfl)) dX1_comes_189 ⟨Nat.zero_le _, Nat.zero_le _⟩) hS (fun q _ h9 => hFc q h9) hFc (fun u60 t H59 locs ht hvm hw hB hz1 hk1 hS => ?_)
                obtain ⟨hP, hK, hD⟩ := af_W hB ht hvm hFc
                clear hFc hB
                obtain ⟨eu60, hIu60⟩ := hw
                refine lv_goto (tgt := 219) hx hb dX1_comes_192 (by decide) ?_
                have hq1 : pX1_comes u a1 = u60 := (by subst eu60; unfold pX1_comes; first | (rw [if_neg c1, if_neg c11, if_neg c35, if_neg c39, if_neg c45, if_neg c51, if_pos c57]; done) | (rw [if_neg c1, if_neg c11, if_neg c35, if_neg c39, if_neg c45, if_neg c51, if_pos c57]; rfl))
                exact W.vret hx hb hr (fun t ht hW => ⟨⟨u60, rfl, ⟨hq1.symm, (hIu60.mono (by omega))⟩, by rw [ht]; exact hP, va_K.moved hW.alike hK, hD⟩, hS.F ht⟩) hS.2.2 dX1_comes_219
              · by_cases c61 : a1 = 8
                · refine lv_tableIn (off := 194) (tgt := 195) hx hb dX1_comes_1 (by rw [c61]; decide) (by rw [c61]; decide) (by rw [c61]; rfl) (by decide) ?_
                  refine lv_aload_n hx hb dX1_comes_195 rfl (lv_at hl 0 rfl) ?_
                  refine lv_iconst (v := 4) hx hb dX1_comes_196 (by decide) ?_
                  refine lv_iconst (v := 1) hx hb dX1_comes_197 (by decide) ?_
                  have hFc := va_free (wc := wM cI cZ h u) hD hS hA [0, 1, 2] rfl
                  refine va_callv (va_runV (As := [.int 4, .int 1]) (rest := []) ⟨hx, hb, hml, hown, hts⟩ (kX1_verticalTo l D cI cZ h s.heap.size u 4 1 n hI (by omega)) (cwV 2 hts gX1_comes_X1_verticalTo rfl rfl rfl (by decide +kernel) ⟨Nat.le_of_ble_eq_true rfl, Nat.le_of_ble_eq_true rfl⟩) ⟨bl_W, va_recv hK hP (ci := 1) (q0 := 0) rfl rfl, pr_W hP hK hD⟩ rfl rfl hl.1 rfl (lv_room (Nat.le_of_ble_eq_true rfl)) dX1_comes_198 ⟨Nat.zero_le _, Nat.zero_le _⟩) hS (fun q _ h9 => hFc q h9) hFc (fun u64 t H63 locs ht hvm hw hB hz1 hk1 hS => ?_)
                  obtain ⟨hP, hK, hD⟩ := af_W hB ht hvm hFc
                  clear hFc hB
                  obtain ⟨eu64, hIu64⟩ := hw
                  refine lv_goto (tgt := 219) hx hb dX1_comes_201 (by decide) ?_
                  have hq1 : pX1_comes u a1 = u64 := (by subst eu64; unfold pX1_comes; first | (rw [if_neg c1, if_neg c11, if_neg c35, if_neg c39, if_neg c45, if_neg c51, if_neg c57, if_pos c61]; done) | (rw [if_neg c1, if_neg c11, if_neg c35, if_neg c39, if_neg c45, if_neg c51, if_neg c57, if_pos c61]; rfl))
                  exact W.vret hx hb hr (fun t ht hW => ⟨⟨u64, rfl, ⟨hq1.symm, (hIu64.mono (by omega))⟩, by rw [ht]; exact hP, va_K.moved hW.alike hK, hD⟩, hS.F ht⟩) hS.2.2 dX1_comes_219
                · by_cases c65 : a1 = 9
                  · refine lv_tableIn (off := 203) (tgt := 204) hx hb dX1_comes_1 (by rw [c65]; decide) (by rw [c65]; decide) (by rw [c65]; rfl) (by decide) ?_
                    refine lv_aload_n hx hb dX1_comes_204 rfl (lv_at hl 0 rfl) ?_
                    refine lv_iconst (v := 1) hx hb dX1_comes_205 (by decide) ?_
                    refine lv_iconst (v := 1) hx hb dX1_comes_206 (by decide) ?_
                    have hFc := va_free (wc := wM cI cZ h u) hD hS hA [0, 1, 2] rfl
                    refine va_callv (va_runV (As := [.int 1, .int 1]) (rest := []) ⟨hx, hb, hml, hown, hts⟩ (kX1_verticalTo l D cI cZ h s.heap.size u 1 1 n hI (by omega)) (cwV 2 hts gX1_comes_X1_verticalTo rfl rfl rfl (by decide +kernel) ⟨Nat.le_of_ble_eq_true rfl, Nat.le_of_ble_eq_true rfl⟩) ⟨bl_W, va_recv hK hP (ci := 1) (q0 := 0) rfl rfl, pr_W hP hK hD⟩ rfl rfl hl.1 rfl (lv_room (Nat.le_of_ble_eq_true rfl)) dX1_comes_207 ⟨Nat.zero_le _, Nat.zero_le _⟩) hS (fun q _ h9 => hFc q h9) hFc (fun u68 t H67 locs ht hvm hw hB hz1 hk1 hS => ?_)
                    obtain ⟨hP, hK, hD⟩ := af_W hB ht hvm hFc
                    clear hFc hB
                    obtain ⟨eu68, hIu68⟩ := hw
                    refine lv_goto (tgt := 219) hx hb dX1_comes_210 (by decide) ?_
                    have hq1 : pX1_comes u a1 = u68 := (by subst eu68; unfold pX1_comes; first | (rw [if_neg c1, if_neg c11, if_neg c35, if_neg c39, if_neg c45, if_neg c51, if_neg c57, if_neg c61, if_pos c65]; done) | (rw [if_neg c1, if_neg c11, if_neg c35, if_neg c39, if_neg c45, if_neg c51, if_neg c57, if_neg c61, if_pos c65]; rfl))
                    exact W.vret hx hb hr (fun t ht hW => ⟨⟨u68, rfl, ⟨hq1.symm, (hIu68.mono (by omega))⟩, by rw [ht]; exact hP, va_K.moved hW.alike hK, hD⟩, hS.F ht⟩) hS.2.2 dX1_comes_219
                  · refine lv_tableOut (tgt := 213) hx hb dX1_comes_1 (by have h0 := ti_ne c1 (n := 1) (by decide); have h1 := ti_ne c11 (n := 2) (by decide); have h2 := ti_ne c35 (n := 3) (by decide); have h3 := ti_ne c39 (n := 4) (by decide); have h4 := ti_ne c45 (n := 5) (by decide); have h5 := ti_ne c51 (n := 6) (by decide); have h6 := ti_ne c57 (n := 7) (by decide); have h7 := ti_ne c61 (n := 8) (by decide); have h8 := ti_ne c65 (n := 9) (by decide); omega) (by decide) ?_
                    refine lv_aload_n hx hb dX1_comes_213 rfl (lv_at hl 0 rfl) ?_
                    refine lv_iconst (v := 3) hx hb dX1_comes_214 (by decide) ?_
                    refine lv_iconst (v := 1) hx hb dX1_comes_215 (by decide) ?_
                    have hFc := va_free (wc := wM cI cZ h u) hD hS hA [0, 1, 2] rfl
                    refine va_callv (va_runV (As := [.int 3, .int 1]) (rest := []) ⟨hx, hb, hml, hown, hts⟩ (kX1_verticalTo l D cI cZ h s.heap.size u 3 1 n hI (by omega)) (cwV 2 hts gX1_comes_X1_verticalTo rfl rfl rfl (by decide +kernel) ⟨Nat.le_of_ble_eq_true rfl, Nat.le_of_ble_eq_true rfl⟩) ⟨bl_W, va_recv hK hP (ci := 1) (q0 := 0) rfl rfl, pr_W hP hK hD⟩ rfl rfl hl.1 rfl (lv_room (Nat.le_of_ble_eq_true rfl)) dX1_comes_216 ⟨Nat.zero_le _, Nat.zero_le _⟩) hS (fun q _ h9 => hFc q h9) hFc (fun u71 t H70 locs ht hvm hw hB hz1 hk1 hS => ?_)
                    obtain ⟨hP, hK, hD⟩ := af_W hB ht hvm hFc
                    clear hFc hB
                    obtain ⟨eu71, hIu71⟩ := hw
                    have hq1 : pX1_comes u a1 = u71 := (by subst eu71; unfold pX1_comes; first | (rw [if_neg c1, if_neg c11, if_neg c35, if_neg c39, if_neg c45, if_neg c51, if_neg c57, if_neg c61, if_neg c65]; done) | (rw [if_neg c1, if_neg c11, if_neg c35, if_neg c39, if_neg c45, if_neg c51, if_neg c57, if_neg c61, if_neg c65]; rfl))
                    exact W.vret hx hb hr (fun t ht hW => ⟨⟨u71, rfl, ⟨hq1.symm, (hIu71.mono (by omega))⟩, by rw [ht]; exact hP, va_K.moved hW.alike hK, hD⟩, hS.F ht⟩) hS.2.2 dX1_comes_219
def pX1_outOfApproach (u : MS) (a1 : Int32) : MS := if (ml u) = 4 then (if (mv (pX1_lateralTo u a1 0)) = 6 then (if (mg (pX1_verticalTo (pX1_lateralTo u a1 0) 1 0)) = 0 then (mg_ (pX1_verticalTo (pX1_lateralTo u a1 0) 1 0) 0) else (if (ma (pX1_verticalTo (pX1_lateralTo u a1 0) 1 0)) = 2 then (mg_ (pX1_verticalTo (pX1_lateralTo u a1 0) 1 0) 1) else (mg_ (pX1_verticalTo (pX1_lateralTo u a1 0) 1 0) 0))) else (if (mg (pX1_lateralTo u a1 0)) = 0 then (mg_ (pX1_lateralTo u a1 0) 0) else (if (ma (pX1_lateralTo u a1 0)) = 2 then (mg_ (pX1_lateralTo u a1 0) 1) else (mg_ (pX1_lateralTo u a1 0) 0)))) else (if (mg (pX1_lateralTo u a1 0)) = 0 then (mg_ (pX1_lateralTo u a1 0) 0) else (mg_ (pX1_lateralTo u a1 0) 1))
set_option maxHeartbeats 4000000 in
set_option maxRecDepth 100000 in
theorem kX1_outOfApproach (l : Launch) (D : va_G) (cI cZ : ClassId) (h : Nat → Nat) (sz : Nat) (u : MS) (a1 : Int32) (n : Nat) (hI : InvM n u) (hn : n ≤ 1999900) : Mv l yX1_outOfApproach wsX1_outOfApproach { frames := 2, cells := 0, slots := 0, locals := 46 } D (tyl cI cZ) (wM cI cZ h) sz u [.ref (h 0), .int a1] (fun u9 => u9 = pX1_outOfApproach u a1 ∧ InvM (n + 2) u9) := by
  refine Met.ofW (cc := cX1_outOfApproach) (maxL := 3) (ret := none) (by decide) rfl ?_
  intro p e s m args below meth c s₁ B hml hv
  obtain ⟨rfl, hsz, hP, hK, hD0⟩ := hv
  have hx := B.exec
  have hb := B.bytes
  have hr := B.returns
  have hts := atoms_spec (ws := wsX1_outOfApproach) B.pre
  have hin : ∀ w ∈ wsX10, w ∈ wsX1_outOfApproach := fun w h9 => List.mem_cons_of_mem _ (List.mem_append_right _ h9)
  have hown : s.vm.findClass RX1 = some m.cls := findClass_of_methodNamed B.named
  have hlocks := B.notSynchronized
  subst hsz
  have hD : va_D (va_A (wM cI cZ h u) s.heap.size) (wM cI cZ h u) := hD0.self (sz := s.heap.size)
  have hA : ∀ q : Nat, s.heap.size ≤ q → va_A (wM cI cZ h u) s.heap.size q := fun q h9 => Or.inr h9
  have hS : va_S (va_A (wM cI cZ h u) s.heap.size) s.heap s.heap [] := va_S.rf
  have hl := lv_entry ([.ref (h 0), .int a1]) (n := 3) (Nat.le_of_ble_eq_true rfl)
  rw [lg_entry_eq]
  generalize (lg_sl ([.ref (h 0), .int a1]) ++ List.replicate (3 - (lg_sl ([.ref (h 0), .int a1])).length) Slot.unset).toArray = ls at hl ⊢
  have hl : lv_has ls 3 [(0, .ref (h 0)), (1, .int a1)] := hl
  generalize va_A (wM cI cZ h u) s.heap.size = A at hD hA hS ⊢
  refine lv_aload_n hx hb dX1_outOfApproach_0 rfl (lv_at hl 0 rfl) ?_
  refine va_get (D := D) (ci := 1) (v := .int (ml u)) (C := RX1) (T := TX1) (N := 15) hx hb hts hin hown hK hP 0 rfl rfl 1 (by decide) (hts (.fieldLink RX1 26 "ModeDeskModel" "lateral" "I") (by decide +kernel)) (fun _ h9 => h9) rfl dX1_outOfApproach_1 ?_
  refine lv_iconst (v := 4) hx hb dX1_outOfApproach_4 (by decide) ?_
  refine lv_icmp_ne (tgt := 12) hx hb dX1_outOfApproach_5 (by decide) (fun c1 => ?_) (fun c1 => ?_)
  · refine lv_iconst (v := 0) hx hb dX1_outOfApproach_12 (by decide) ?_
    refine lv_istore_n (lv' := [(2, .int 0), (0, .ref (h 0)), (1, .int a1)]) hx hb dX1_outOfApproach_13 rfl hl (by decide) rfl (fun ls hl => ?_)
    refine lv_aload_n hx hb dX1_outOfApproach_14 rfl (lv_at hl 1 rfl) ?_
    refine lv_iload_n hx hb dX1_outOfApproach_15 rfl (lv_at hl 2 rfl) ?_
    refine lv_iconst (v := 0) hx hb dX1_outOfApproach_16 (by decide) ?_
    have hFc := va_free (wc := wM cI cZ h u) hD hS hA [0, 1, 2] rfl
    refine va_callv (va_runV (As := [.int a1, .int 0]) (rest := []) ⟨hx, hb, hml, hown, hts⟩ (kX1_lateralTo l D cI cZ h s.heap.size u a1 0 n hI (by omega)) (cwV 2 hts gX1_outOfApproach_X1_lateralTo rfl rfl rfl (by decide +kernel) ⟨Nat.le_of_ble_eq_true rfl, Nat.le_of_ble_eq_true rfl⟩) ⟨bl_W, va_recv hK hP (ci := 1) (q0 := 0) rfl rfl, pr_W hP hK hD⟩ rfl rfl hl.1 rfl (lv_room (Nat.le_of_ble_eq_true rfl)) dX1_outOfApproach_17 ⟨Nat.zero_le _, Nat.zero_le _⟩) hS (fun q _ h9 => hFc q h9) hFc (fun u4 t H3 locs ht hvm hw hB hz1 hk1 hS => ?_)
    obtain ⟨hP, hK, hD⟩ := af_W hB ht hvm hFc
    clear hFc hB
    obtain ⟨eu4, hIu4⟩ := hw
    refine lv_iload_n hx hb dX1_outOfApproach_20 rfl (lv_at hl 0 rfl) ?_
    refine lv_if_eq (tgt := 39) hx hb dX1_outOfApproach_21 (by decide) (fun _ => ?_) (fun c9 => absurd (by decide) c9)
    refine lv_aload_n hx hb dX1_outOfApproach_39 rfl (lv_at hl 1 rfl) ?_
    refine lv_aload_n hx hb dX1_outOfApproach_40 rfl (lv_at hl 1 rfl) ?_
    refine va_get (D := D) (ci := 1) (v := .int (mg u4)) (C := RX1) (T := TX1) (N := 15) hx hb hts hin hown hK hP 0 rfl rfl 4 (by decide) (hts (.fieldLink RX1 45 "ModeDeskModel" "armedGlide" "Z") (by decide +kernel)) (fun _ h9 => h9) rfl dX1_outOfApproach_41 ?_
    refine lv_if_eq (tgt := 63) hx hb dX1_outOfApproach_44 (by decide) (fun c5 => ?_) (fun c5 => ?_)
    · refine lv_iconst (v := 0) hx hb dX1_outOfApproach_63 (by decide) ?_
      refine va_put (D := D) (ci := 1) (v := .int 0) (ty := .boolean) (C := RX1) (T := TX1) (N := 15) hx hb hts hin tyX1 tyX1_ok nmX1 hown hK hP hD hS 0 rfl rfl 4 (by decide) (hts (.fieldLink RX1 45 "ModeDeskModel" "armedGlide" "Z") (by decide +kernel)) (fun _ h9 => h9) rfl (by decide +kernel) (bz_n bz0) (bz_f bz0) (Nat.le_of_ble_eq_true rfl) dX1_outOfApproach_64 (fun H7 locs hP hD hS => ?_)
      obtain ⟨u6, eu6⟩ : ∃ y : MS, y = mg_ u4 0 := ⟨_, rfl⟩
      have hP : va_P D vwCl (wM cI cZ h u6) H7 := by rw [eu6]; exact hP
      have hD : va_D A (wM cI cZ h u6) := by rw [eu6]; exact hD
      have hIu6 : InvM (n + 1) u6 := by rw [eu6]; exact InvM.sg hIu4 bz0
      have hq1 : pX1_outOfApproach u a1 = u6 := (by subst eu6; subst eu4; unfold pX1_outOfApproach; first | (rw [if_neg c1, if_pos c5]; done) | (rw [if_neg c1, if_pos c5]; rfl))
      exact W.vret hx hb hr (fun t ht hW => ⟨⟨u6, rfl, ⟨hq1.symm, (hIu6.mono (by omega))⟩, by rw [ht]; exact hP, va_K.moved hW.alike hK, hD⟩, hS.F ht⟩) hS.2.2 dX1_outOfApproach_67
    · refine lv_iload_n hx hb dX1_outOfApproach_47 rfl (lv_at hl 0 rfl) ?_
      refine lv_if_eq (tgt := 59) hx hb dX1_outOfApproach_48 (by decide) (fun _ => ?_) (fun c9 => absurd (by decide) c9)
      refine lv_iconst (v := 1) hx hb dX1_outOfApproach_59 (by decide) ?_
      refine lv_goto (tgt := 64) hx hb dX1_outOfApproach_60 (by decide) ?_
      refine va_put (D := D) (ci := 1) (v := .int 1) (ty := .boolean) (C := RX1) (T := TX1) (N := 15) hx hb hts hin tyX1 tyX1_ok nmX1 hown hK hP hD hS 0 rfl rfl 4 (by decide) (hts (.fieldLink RX1 45 "ModeDeskModel" "armedGlide" "Z") (by decide +kernel)) (fun _ h9 => h9) rfl (by decide +kernel) (bz_n bz1) (bz_f bz1) (Nat.le_of_ble_eq_true rfl) dX1_outOfApproach_64 (fun H9 locs hP hD hS => ?_)
      obtain ⟨u8, eu8⟩ : ∃ y : MS, y = mg_ u4 1 := ⟨_, rfl⟩
      have hP : va_P D vwCl (wM cI cZ h u8) H9 := by rw [eu8]; exact hP
      have hD : va_D A (wM cI cZ h u8) := by rw [eu8]; exact hD
      have hIu8 : InvM (n + 1) u8 := by rw [eu8]; exact InvM.sg hIu4 bz1
      have hq1 : pX1_outOfApproach u a1 = u8 := (by subst eu8; subst eu4; unfold pX1_outOfApproach; first | (rw [if_neg c1, if_neg c5]; done) | (rw [if_neg c1, if_neg c5]; rfl))
      exact W.vret hx hb hr (fun t ht hW => ⟨⟨u8, rfl, ⟨hq1.symm, (hIu8.mono (by omega))⟩, by rw [ht]; exact hP, va_K.moved hW.alike hK, hD⟩, hS.F ht⟩) hS.2.2 dX1_outOfApproach_67
  · refine lv_iconst (v := 1) hx hb dX1_outOfApproach_8 (by decide) ?_
    refine lv_goto (tgt := 13) hx hb dX1_outOfApproach_9 (by decide) ?_
    refine lv_istore_n (lv' := [(2, .int 1), (0, .ref (h 0)), (1, .int a1)]) hx hb dX1_outOfApproach_13 rfl hl (by decide) rfl (fun ls hl => ?_)
    refine lv_aload_n hx hb dX1_outOfApproach_14 rfl (lv_at hl 1 rfl) ?_
    refine lv_iload_n hx hb dX1_outOfApproach_15 rfl (lv_at hl 2 rfl) ?_
    refine lv_iconst (v := 0) hx hb dX1_outOfApproach_16 (by decide) ?_
    have hFc := va_free (wc := wM cI cZ h u) hD hS hA [0, 1, 2] rfl
    refine va_callv (va_runV (As := [.int a1, .int 0]) (rest := []) ⟨hx, hb, hml, hown, hts⟩ (kX1_lateralTo l D cI cZ h s.heap.size u a1 0 n hI (by omega)) (cwV 2 hts gX1_outOfApproach_X1_lateralTo rfl rfl rfl (by decide +kernel) ⟨Nat.le_of_ble_eq_true rfl, Nat.le_of_ble_eq_true rfl⟩) ⟨bl_W, va_recv hK hP (ci := 1) (q0 := 0) rfl rfl, pr_W hP hK hD⟩ rfl rfl hl.1 rfl (lv_room (Nat.le_of_ble_eq_true rfl)) dX1_outOfApproach_17 ⟨Nat.zero_le _, Nat.zero_le _⟩) hS (fun q _ h9 => hFc q h9) hFc (fun u12 t H11 locs ht hvm hw hB hz1 hk1 hS => ?_)
    obtain ⟨hP, hK, hD⟩ := af_W hB ht hvm hFc
    clear hFc hB
    obtain ⟨eu12, hIu12⟩ := hw
    refine lv_iload_n hx hb dX1_outOfApproach_20 rfl (lv_at hl 0 rfl) ?_
    refine lv_if_eq (tgt := 39) hx hb dX1_outOfApproach_21 (by decide) (fun c9 => absurd c9 (by decide)) (fun _ => ?_)
    refine lv_aload_n hx hb dX1_outOfApproach_24 rfl (lv_at hl 1 rfl) ?_
    refine va_get (D := D) (ci := 1) (v := .int (mv u12)) (C := RX1) (T := TX1) (N := 15) hx hb hts hin hown hK hP 0 rfl rfl 2 (by decide) (hts (.fieldLink RX1 36 "ModeDeskModel" "vertical" "I") (by decide +kernel)) (fun _ h9 => h9) rfl dX1_outOfApproach_25 ?_
    refine lv_bipush (v := 6) hx hb dX1_outOfApproach_28 (by decide) ?_
    refine lv_icmp_ne (tgt := 39) hx hb dX1_outOfApproach_30 (by decide) (fun c13 => ?_) (fun c13 => ?_)
    · refine lv_aload_n hx hb dX1_outOfApproach_39 rfl (lv_at hl 1 rfl) ?_
      refine lv_aload_n hx hb dX1_outOfApproach_40 rfl (lv_at hl 1 rfl) ?_
      refine va_get (D := D) (ci := 1) (v := .int (mg u12)) (C := RX1) (T := TX1) (N := 15) hx hb hts hin hown hK hP 0 rfl rfl 4 (by decide) (hts (.fieldLink RX1 45 "ModeDeskModel" "armedGlide" "Z") (by decide +kernel)) (fun _ h9 => h9) rfl dX1_outOfApproach_41 ?_
      refine lv_if_eq (tgt := 63) hx hb dX1_outOfApproach_44 (by decide) (fun c14 => ?_) (fun c14 => ?_)
      · refine lv_iconst (v := 0) hx hb dX1_outOfApproach_63 (by decide) ?_
        refine va_put (D := D) (ci := 1) (v := .int 0) (ty := .boolean) (C := RX1) (T := TX1) (N := 15) hx hb hts hin tyX1 tyX1_ok nmX1 hown hK hP hD hS 0 rfl rfl 4 (by decide) (hts (.fieldLink RX1 45 "ModeDeskModel" "armedGlide" "Z") (by decide +kernel)) (fun _ h9 => h9) rfl (by decide +kernel) (bz_n bz0) (bz_f bz0) (Nat.le_of_ble_eq_true rfl) dX1_outOfApproach_64 (fun H16 locs hP hD hS => ?_)
        obtain ⟨u15, eu15⟩ : ∃ y : MS, y = mg_ u12 0 := ⟨_, rfl⟩
        have hP : va_P D vwCl (wM cI cZ h u15) H16 := by rw [eu15]; exact hP
        have hD : va_D A (wM cI cZ h u15) := by rw [eu15]; exact hD
        have hIu15 : InvM (n + 1) u15 := by rw [eu15]; exact InvM.sg hIu12 bz0
        have hq1 : pX1_outOfApproach u a1 = u15 := (by subst eu15; subst eu12; unfold pX1_outOfApproach; first | (rw [if_pos c1, if_neg c13, if_pos c14]; done) | (rw [if_pos c1, if_neg c13, if_pos c14]; rfl))
        exact W.vret hx hb hr (fun t ht hW => ⟨⟨u15, rfl, ⟨hq1.symm, (hIu15.mono (by omega))⟩, by rw [ht]; exact hP, va_K.moved hW.alike hK, hD⟩, hS.F ht⟩) hS.2.2 dX1_outOfApproach_67
      · refine lv_iload_n hx hb dX1_outOfApproach_47 rfl (lv_at hl 0 rfl) ?_
        refine lv_if_eq (tgt := 59) hx hb dX1_outOfApproach_48 (by decide) (fun c9 => absurd c9 (by decide)) (fun _ => ?_)
        refine lv_aload_n hx hb dX1_outOfApproach_51 rfl (lv_at hl 1 rfl) ?_
        refine va_get (D := D) (ci := 1) (v := .int (ma u12)) (C := RX1) (T := TX1) (N := 15) hx hb hts hin hown hK hP 0 rfl rfl 3 (by decide) (hts (.fieldLink RX1 42 "ModeDeskModel" "armedLateral" "I") (by decide +kernel)) (fun _ h9 => h9) rfl dX1_outOfApproach_52 ?_
        refine lv_iconst (v := 2) hx hb dX1_outOfApproach_55 (by decide) ?_
        refine lv_icmp_ne (tgt := 63) hx hb dX1_outOfApproach_56 (by decide) (fun c17 => ?_) (fun c17 => ?_)
        · refine lv_iconst (v := 0) hx hb dX1_outOfApproach_63 (by decide) ?_
          refine va_put (D := D) (ci := 1) (v := .int 0) (ty := .boolean) (C := RX1) (T := TX1) (N := 15) hx hb hts hin tyX1 tyX1_ok nmX1 hown hK hP hD hS 0 rfl rfl 4 (by decide) (hts (.fieldLink RX1 45 "ModeDeskModel" "armedGlide" "Z") (by decide +kernel)) (fun _ h9 => h9) rfl (by decide +kernel) (bz_n bz0) (bz_f bz0) (Nat.le_of_ble_eq_true rfl) dX1_outOfApproach_64 (fun H19 locs hP hD hS => ?_)
          obtain ⟨u18, eu18⟩ : ∃ y : MS, y = mg_ u12 0 := ⟨_, rfl⟩
          have hP : va_P D vwCl (wM cI cZ h u18) H19 := by rw [eu18]; exact hP
          have hD : va_D A (wM cI cZ h u18) := by rw [eu18]; exact hD
          have hIu18 : InvM (n + 1) u18 := by rw [eu18]; exact InvM.sg hIu12 bz0
          have hq1 : pX1_outOfApproach u a1 = u18 := (by subst eu18; subst eu12; unfold pX1_outOfApproach; first | (rw [if_pos c1, if_neg c13, if_neg c14, if_neg c17]; done) | (rw [if_pos c1, if_neg c13, if_neg c14, if_neg c17]; rfl))
          exact W.vret hx hb hr (fun t ht hW => ⟨⟨u18, rfl, ⟨hq1.symm, (hIu18.mono (by omega))⟩, by rw [ht]; exact hP, va_K.moved hW.alike hK, hD⟩, hS.F ht⟩) hS.2.2 dX1_outOfApproach_67
        · refine lv_iconst (v := 1) hx hb dX1_outOfApproach_59 (by decide) ?_
          refine lv_goto (tgt := 64) hx hb dX1_outOfApproach_60 (by decide) ?_
          refine va_put (D := D) (ci := 1) (v := .int 1) (ty := .boolean) (C := RX1) (T := TX1) (N := 15) hx hb hts hin tyX1 tyX1_ok nmX1 hown hK hP hD hS 0 rfl rfl 4 (by decide) (hts (.fieldLink RX1 45 "ModeDeskModel" "armedGlide" "Z") (by decide +kernel)) (fun _ h9 => h9) rfl (by decide +kernel) (bz_n bz1) (bz_f bz1) (Nat.le_of_ble_eq_true rfl) dX1_outOfApproach_64 (fun H21 locs hP hD hS => ?_)
          obtain ⟨u20, eu20⟩ : ∃ y : MS, y = mg_ u12 1 := ⟨_, rfl⟩
          have hP : va_P D vwCl (wM cI cZ h u20) H21 := by rw [eu20]; exact hP
          have hD : va_D A (wM cI cZ h u20) := by rw [eu20]; exact hD
          have hIu20 : InvM (n + 1) u20 := by rw [eu20]; exact InvM.sg hIu12 bz1
          have hq1 : pX1_outOfApproach u a1 = u20 := (by subst eu20; subst eu12; unfold pX1_outOfApproach; first | (rw [if_pos c1, if_neg c13, if_neg c14, if_pos c17]; done) | (rw [if_pos c1, if_neg c13, if_neg c14, if_pos c17]; rfl))
          exact W.vret hx hb hr (fun t ht hW => ⟨⟨u20, rfl, ⟨hq1.symm, (hIu20.mono (by omega))⟩, by rw [ht]; exact hP, va_K.moved hW.alike hK, hD⟩, hS.F ht⟩) hS.2.2 dX1_outOfApproach_67
    · refine lv_aload_n hx hb dX1_outOfApproach_33 rfl (lv_at hl 1 rfl) ?_
      refine lv_iconst (v := 1) hx hb dX1_outOfApproach_34 (by decide) ?_
      refine lv_iconst (v := 0) hx hb dX1_outOfApproach_35 (by decide) ?_
      have hFc := va_free (wc := wM cI cZ h u12) hD hS hA [0, 1, 2] rfl
      refine va_callv (va_runV (As := [.int 1, .int 0]) (rest := []) ⟨hx, hb, hml, hown, hts⟩ (kX1_verticalTo l D cI cZ h H11.size u12 1 0 (n + 1) hIu12 (by omega)) (cwV 2 hts gX1_outOfApproach_X1_verticalTo rfl rfl rfl (by decide +kernel) ⟨Nat.le_of_ble_eq_true rfl, Nat.le_of_ble_eq_true rfl⟩) ⟨bl_W, va_recv hK hP (ci := 1) (q0 := 0) rfl rfl, pr_W hP hK hD⟩ rfl rfl hl.1 rfl (lv_room (Nat.le_of_ble_eq_true rfl)) dX1_outOfApproach_36 ⟨Nat.zero_le _, Nat.zero_le _⟩) hS (fun q _ h9 => hFc q h9) hFc (fun u24 t H23 locs ht hvm hw hB hz1 hk1 hS => ?_)
      obtain ⟨hP, hK, hD⟩ := af_W hB ht hvm hFc
      clear hFc hB
      obtain ⟨eu24, hIu24⟩ := hw
      have hIu24 : InvM (n + 2) u24 := hIu24.mono (by omega)
      refine lv_aload_n hx hb dX1_outOfApproach_39 rfl (lv_at hl 1 rfl) ?_
      refine lv_aload_n hx hb dX1_outOfApproach_40 rfl (lv_at hl 1 rfl) ?_
      refine va_get (D := D) (ci := 1) (v := .int (mg u24)) (C := RX1) (T := TX1) (N := 15) hx hb hts hin hown hK hP 0 rfl rfl 4 (by decide) (hts (.fieldLink RX1 45 "ModeDeskModel" "armedGlide" "Z") (by decide +kernel)) (fun _ h9 => h9) rfl dX1_outOfApproach_41 ?_
      refine lv_if_eq (tgt := 63) hx hb dX1_outOfApproach_44 (by decide) (fun c25 => ?_) (fun c25 => ?_)
      · refine lv_iconst (v := 0) hx hb dX1_outOfApproach_63 (by decide) ?_
        refine va_put (D := D) (ci := 1) (v := .int 0) (ty := .boolean) (C := RX1) (T := TX1) (N := 15) hx hb hts hin tyX1 tyX1_ok nmX1 hown hK hP hD hS 0 rfl rfl 4 (by decide) (hts (.fieldLink RX1 45 "ModeDeskModel" "armedGlide" "Z") (by decide +kernel)) (fun _ h9 => h9) rfl (by decide +kernel) (bz_n bz0) (bz_f bz0) (Nat.le_of_ble_eq_true rfl) dX1_outOfApproach_64 (fun H27 locs hP hD hS => ?_)
        obtain ⟨u26, eu26⟩ : ∃ y : MS, y = mg_ u24 0 := ⟨_, rfl⟩
        have hP : va_P D vwCl (wM cI cZ h u26) H27 := by rw [eu26]; exact hP
        have hD : va_D A (wM cI cZ h u26) := by rw [eu26]; exact hD
        have hIu26 : InvM (n + 2) u26 := by rw [eu26]; exact InvM.sg hIu24 bz0
        have hq1 : pX1_outOfApproach u a1 = u26 := (by subst eu26; subst eu24; subst eu12; unfold pX1_outOfApproach; first | (rw [if_pos c1, if_pos c13, if_pos c25]; done) | (rw [if_pos c1, if_pos c13, if_pos c25]; rfl))
        exact W.vret hx hb hr (fun t ht hW => ⟨⟨u26, rfl, ⟨hq1.symm, hIu26⟩, by rw [ht]; exact hP, va_K.moved hW.alike hK, hD⟩, hS.F ht⟩) hS.2.2 dX1_outOfApproach_67
      · refine lv_iload_n hx hb dX1_outOfApproach_47 rfl (lv_at hl 0 rfl) ?_
        refine lv_if_eq (tgt := 59) hx hb dX1_outOfApproach_48 (by decide) (fun c9 => absurd c9 (by decide)) (fun _ => ?_)
        refine lv_aload_n hx hb dX1_outOfApproach_51 rfl (lv_at hl 1 rfl) ?_
        refine va_get (D := D) (ci := 1) (v := .int (ma u24)) (C := RX1) (T := TX1) (N := 15) hx hb hts hin hown hK hP 0 rfl rfl 3 (by decide) (hts (.fieldLink RX1 42 "ModeDeskModel" "armedLateral" "I") (by decide +kernel)) (fun _ h9 => h9) rfl dX1_outOfApproach_52 ?_
        refine lv_iconst (v := 2) hx hb dX1_outOfApproach_55 (by decide) ?_
        refine lv_icmp_ne (tgt := 63) hx hb dX1_outOfApproach_56 (by decide) (fun c28 => ?_) (fun c28 => ?_)
        · refine lv_iconst (v := 0) hx hb dX1_outOfApproach_63 (by decide) ?_
          refine va_put (D := D) (ci := 1) (v := .int 0) (ty := .boolean) (C := RX1) (T := TX1) (N := 15) hx hb hts hin tyX1 tyX1_ok nmX1 hown hK hP hD hS 0 rfl rfl 4 (by decide) (hts (.fieldLink RX1 45 "ModeDeskModel" "armedGlide" "Z") (by decide +kernel)) (fun _ h9 => h9) rfl (by decide +kernel) (bz_n bz0) (bz_f bz0) (Nat.le_of_ble_eq_true rfl) dX1_outOfApproach_64 (fun H30 locs hP hD hS => ?_)
          obtain ⟨u29, eu29⟩ : ∃ y : MS, y = mg_ u24 0 := ⟨_, rfl⟩
          have hP : va_P D vwCl (wM cI cZ h u29) H30 := by rw [eu29]; exact hP
          have hD : va_D A (wM cI cZ h u29) := by rw [eu29]; exact hD
          have hIu29 : InvM (n + 2) u29 := by rw [eu29]; exact InvM.sg hIu24 bz0
          have hq1 : pX1_outOfApproach u a1 = u29 := (by subst eu29; subst eu24; subst eu12; unfold pX1_outOfApproach; first | (rw [if_pos c1, if_pos c13, if_neg c25, if_neg c28]; done) | (rw [if_pos c1, if_pos c13, if_neg c25, if_neg c28]; rfl))
          exact W.vret hx hb hr (fun t ht hW => ⟨⟨u29, rfl, ⟨hq1.symm, hIu29⟩, by rw [ht]; exact hP, va_K.moved hW.alike hK, hD⟩, hS.F ht⟩) hS.2.2 dX1_outOfApproach_67
        · refine lv_iconst (v := 1) hx hb dX1_outOfApproach_59 (by decide) ?_
          refine lv_goto (tgt := 64) hx hb dX1_outOfApproach_60 (by decide) ?_
          refine va_put (D := D) (ci := 1) (v := .int 1) (ty := .boolean) (C := RX1) (T := TX1) (N := 15) hx hb hts hin tyX1 tyX1_ok nmX1 hown hK hP hD hS 0 rfl rfl 4 (by decide) (hts (.fieldLink RX1 45 "ModeDeskModel" "armedGlide" "Z") (by decide +kernel)) (fun _ h9 => h9) rfl (by decide +kernel) (bz_n bz1) (bz_f bz1) (Nat.le_of_ble_eq_true rfl) dX1_outOfApproach_64 (fun H32 locs hP hD hS => ?_)
          obtain ⟨u31, eu31⟩ : ∃ y : MS, y = mg_ u24 1 := ⟨_, rfl⟩
          have hP : va_P D vwCl (wM cI cZ h u31) H32 := by rw [eu31]; exact hP
          have hD : va_D A (wM cI cZ h u31) := by rw [eu31]; exact hD
          have hIu31 : InvM (n + 2) u31 := by rw [eu31]; exact InvM.sg hIu24 bz1
          have hq1 : pX1_outOfApproach u a1 = u31 := (by subst eu31; subst eu24; subst eu12; unfold pX1_outOfApproach; first | (rw [if_pos c1, if_pos c13, if_neg c25, if_pos c28]; done) | (rw [if_pos c1, if_pos c13, if_neg c25, if_pos c28]; rfl))
          exact W.vret hx hb hr (fun t ht hW => ⟨⟨u31, rfl, ⟨hq1.symm, hIu31⟩, by rw [ht]; exact hP, va_K.moved hW.alike hK, hD⟩, hS.F ht⟩) hS.2.2 dX1_outOfApproach_67
def pX1_navButton (u : MS) : MS := if (ml u) = 3 then (pX1_lateralTo u 1 0) else (if (ml u) = 4 then (u) else (if (ma u) = 1 then (ma_ u 0) else (mg_ (ma_ u 1) 0)))
set_option maxHeartbeats 4000000 in
set_option maxRecDepth 100000 in
theorem kX1_navButton (l : Launch) (D : va_G) (cI cZ : ClassId) (h : Nat → Nat) (sz : Nat) (u : MS) (n : Nat) (hI : InvM n u) (hn : n ≤ 1999900) : Mv l yX1_navButton wsX1_navButton { frames := 2, cells := 0, slots := 0, locals := 46 } D (tyl cI cZ) (wM cI cZ h) sz u [.ref (h 0)] (fun u9 => u9 = pX1_navButton u ∧ InvM (n + 1) u9) := by
  refine Met.ofW (cc := cX1_navButton) (maxL := 1) (ret := none) (by decide) rfl ?_
  intro p e s m args below meth c s₁ B hml hv
  obtain ⟨rfl, hsz, hP, hK, hD0⟩ := hv
  have hx := B.exec
  have hb := B.bytes
  have hr := B.returns
  have hts := atoms_spec (ws := wsX1_navButton) B.pre
  have hin : ∀ w ∈ wsX10, w ∈ wsX1_navButton := fun w h9 => List.mem_cons_of_mem _ (List.mem_append_right _ h9)
  have hown : s.vm.findClass RX1 = some m.cls := findClass_of_methodNamed B.named
  have hlocks := B.notSynchronized
  subst hsz
  have hD : va_D (va_A (wM cI cZ h u) s.heap.size) (wM cI cZ h u) := hD0.self (sz := s.heap.size)
  have hA : ∀ q : Nat, s.heap.size ≤ q → va_A (wM cI cZ h u) s.heap.size q := fun q h9 => Or.inr h9
  have hS : va_S (va_A (wM cI cZ h u) s.heap.size) s.heap s.heap [] := va_S.rf
  have hl := lv_entry ([.ref (h 0)]) (n := 1) (Nat.le_of_ble_eq_true rfl)
  rw [lg_entry_eq]
  generalize (lg_sl ([.ref (h 0)]) ++ List.replicate (1 - (lg_sl ([.ref (h 0)])).length) Slot.unset).toArray = ls at hl ⊢
  have hl : lv_has ls 1 [(0, .ref (h 0))] := hl
  generalize va_A (wM cI cZ h u) s.heap.size = A at hD hA hS ⊢
  refine lv_aload_n hx hb dX1_navButton_0 rfl (lv_at hl 0 rfl) ?_
  refine va_get (D := D) (ci := 1) (v := .int (ml u)) (C := RX1) (T := TX1) (N := 15) hx hb hts hin hown hK hP 0 rfl rfl 1 (by decide) (hts (.fieldLink RX1 26 "ModeDeskModel" "lateral" "I") (by decide +kernel)) (fun _ h9 => h9) rfl dX1_navButton_1 ?_
  refine lv_iconst (v := 3) hx hb dX1_navButton_4 (by decide) ?_
  refine lv_icmp_ne (tgt := 17) hx hb dX1_navButton_5 (by decide) (fun c1 => ?_) (fun c1 => ?_)
  · refine lv_aload_n hx hb dX1_navButton_17 rfl (lv_at hl 0 rfl) ?_
    refine va_get (D := D) (ci := 1) (v := .int (ml u)) (C := RX1) (T := TX1) (N := 15) hx hb hts hin hown hK hP 0 rfl rfl 1 (by decide) (hts (.fieldLink RX1 26 "ModeDeskModel" "lateral" "I") (by decide +kernel)) (fun _ h9 => h9) rfl dX1_navButton_18 ?_
    refine lv_iconst (v := 4) hx hb dX1_navButton_21 (by decide) ?_
    refine lv_icmp_eq (tgt := 51) hx hb dX1_navButton_22 (by decide) (fun c2 => ?_) (fun c2 => ?_)
    · have hq1 : pX1_navButton u = u := (by unfold pX1_navButton; first | (rw [if_neg c1, if_pos c2]; done) | (rw [if_neg c1, if_pos c2]; rfl))
      exact W.vret hx hb hr (fun t ht hW => ⟨⟨u, rfl, ⟨hq1.symm, (hI.mono (by omega))⟩, by rw [ht]; exact hP, va_K.moved hW.alike hK, hD⟩, hS.F ht⟩) hS.2.2 dX1_navButton_51
    · refine lv_aload_n hx hb dX1_navButton_25 rfl (lv_at hl 0 rfl) ?_
      refine va_get (D := D) (ci := 1) (v := .int (ma u)) (C := RX1) (T := TX1) (N := 15) hx hb hts hin hown hK hP 0 rfl rfl 3 (by decide) (hts (.fieldLink RX1 42 "ModeDeskModel" "armedLateral" "I") (by decide +kernel)) (fun _ h9 => h9) rfl dX1_navButton_26 ?_
      refine lv_iconst (v := 1) hx hb dX1_navButton_29 (by decide) ?_
      refine lv_icmp_ne (tgt := 41) hx hb dX1_navButton_30 (by decide) (fun c3 => ?_) (fun c3 => ?_)
      · refine lv_aload_n hx hb dX1_navButton_41 rfl (lv_at hl 0 rfl) ?_
        refine lv_iconst (v := 1) hx hb dX1_navButton_42 (by decide) ?_
        refine va_put (D := D) (ci := 1) (v := .int 1) (ty := .int) (C := RX1) (T := TX1) (N := 15) hx hb hts hin tyX1 tyX1_ok nmX1 hown hK hP hD hS 0 rfl rfl 3 (by decide) (hts (.fieldLink RX1 42 "ModeDeskModel" "armedLateral" "I") (by decide +kernel)) (fun _ h9 => h9) rfl (by decide +kernel) rfl rfl (Nat.le_of_ble_eq_true rfl) dX1_navButton_43 (fun H5 locs hP hD hS => ?_)
        obtain ⟨u4, eu4⟩ : ∃ y : MS, y = ma_ u 1 := ⟨_, rfl⟩
        have hP : va_P D vwCl (wM cI cZ h u4) H5 := by rw [eu4]; exact hP
        have hD : va_D A (wM cI cZ h u4) := by rw [eu4]; exact hD
        have hIu4 : InvM n u4 := by rw [eu4]; exact InvM.sa hI _
        refine lv_aload_n hx hb dX1_navButton_46 rfl (lv_at hl 0 rfl) ?_
        refine lv_iconst (v := 0) hx hb dX1_navButton_47 (by decide) ?_
        refine va_put (D := D) (ci := 1) (v := .int 0) (ty := .boolean) (C := RX1) (T := TX1) (N := 15) hx hb hts hin tyX1 tyX1_ok nmX1 hown hK hP hD hS 0 rfl rfl 4 (by decide) (hts (.fieldLink RX1 45 "ModeDeskModel" "armedGlide" "Z") (by decide +kernel)) (fun _ h9 => h9) rfl (by decide +kernel) (bz_n bz0) (bz_f bz0) (Nat.le_of_ble_eq_true rfl) dX1_navButton_48 (fun H7 locs hP hD hS => ?_)
        obtain ⟨u6, eu6⟩ : ∃ y : MS, y = mg_ u4 0 := ⟨_, rfl⟩
        have hP : va_P D vwCl (wM cI cZ h u6) H7 := by rw [eu6]; exact hP
        have hD : va_D A (wM cI cZ h u6) := by rw [eu6]; exact hD
        have hIu6 : InvM n u6 := by rw [eu6]; exact InvM.sg hIu4 bz0
        have hq1 : pX1_navButton u = u6 := (by subst eu6; subst eu4; unfold pX1_navButton; first | (rw [if_neg c1, if_neg c2, if_neg c3]; done) | (rw [if_neg c1, if_neg c2, if_neg c3]; rfl))
        exact W.vret hx hb hr (fun t ht hW => ⟨⟨u6, rfl, ⟨hq1.symm, (hIu6.mono (by omega))⟩, by rw [ht]; exact hP, va_K.moved hW.alike hK, hD⟩, hS.F ht⟩) hS.2.2 dX1_navButton_51
      · refine lv_aload_n hx hb dX1_navButton_33 rfl (lv_at hl 0 rfl) ?_
        refine lv_iconst (v := 0) hx hb dX1_navButton_34 (by decide) ?_
        refine va_put (D := D) (ci := 1) (v := .int 0) (ty := .int) (C := RX1) (T := TX1) (N := 15) hx hb hts hin tyX1 tyX1_ok nmX1 hown hK hP hD hS 0 rfl rfl 3 (by decide) (hts (.fieldLink RX1 42 "ModeDeskModel" "armedLateral" "I") (by decide +kernel)) (fun _ h9 => h9) rfl (by decide +kernel) rfl rfl (Nat.le_of_ble_eq_true rfl) dX1_navButton_35 (fun H9 locs hP hD hS => ?_)
        obtain ⟨u8, eu8⟩ : ∃ y : MS, y = ma_ u 0 := ⟨_, rfl⟩
        have hP : va_P D vwCl (wM cI cZ h u8) H9 := by rw [eu8]; exact hP
        have hD : va_D A (wM cI cZ h u8) := by rw [eu8]; exact hD
        have hIu8 : InvM n u8 := by rw [eu8]; exact InvM.sa hI _
        refine lv_goto (tgt := 51) hx hb dX1_navButton_38 (by decide) ?_
        have hq1 : pX1_navButton u = u8 := (by subst eu8; unfold pX1_navButton; first | (rw [if_neg c1, if_neg c2, if_pos c3]; done) | (rw [if_neg c1, if_neg c2, if_pos c3]; rfl))
        exact W.vret hx hb hr (fun t ht hW => ⟨⟨u8, rfl, ⟨hq1.symm, (hIu8.mono (by omega))⟩, by rw [ht]; exact hP, va_K.moved hW.alike hK, hD⟩, hS.F ht⟩) hS.2.2 dX1_navButton_51
  · refine lv_aload_n hx hb dX1_navButton_8 rfl (lv_at hl 0 rfl) ?_
    refine lv_iconst (v := 1) hx hb dX1_navButton_9 (by decide) ?_
    refine lv_iconst (v := 0) hx hb dX1_navButton_10 (by decide) ?_
    have hFc := va_free (wc := wM cI cZ h u) hD hS hA [0, 1, 2] rfl
    refine va_callv (va_runV (As := [.int 1, .int 0]) (rest := []) ⟨hx, hb, hml, hown, hts⟩ (kX1_lateralTo l D cI cZ h s.heap.size u 1 0 n hI (by omega)) (cwV 2 hts gX1_navButton_X1_lateralTo rfl rfl rfl (by decide +kernel) ⟨Nat.le_of_ble_eq_true rfl, Nat.le_of_ble_eq_true rfl⟩) ⟨bl_W, va_recv hK hP (ci := 1) (q0 := 0) rfl rfl, pr_W hP hK hD⟩ rfl rfl hl.1 rfl (lv_room (Nat.le_of_ble_eq_true rfl)) dX1_navButton_11 ⟨Nat.zero_le _, Nat.zero_le _⟩) hS (fun q _ h9 => hFc q h9) hFc (fun u12 t H11 locs ht hvm hw hB hz1 hk1 hS => ?_)
    obtain ⟨hP, hK, hD⟩ := af_W hB ht hvm hFc
    clear hFc hB
    obtain ⟨eu12, hIu12⟩ := hw
    refine lv_goto (tgt := 51) hx hb dX1_navButton_14 (by decide) ?_
    have hq1 : pX1_navButton u = u12 := (by subst eu12; unfold pX1_navButton; first | (rw [if_pos c1]; done) | (rw [if_pos c1]; rfl))
    exact W.vret hx hb hr (fun t ht hW => ⟨⟨u12, rfl, ⟨hq1.symm, hIu12⟩, by rw [ht]; exact hP, va_K.moved hW.alike hK, hD⟩, hS.F ht⟩) hS.2.2 dX1_navButton_51
def pX1_approachButton (u : MS) : MS := if (ml u) = 4 then (mg_ (pX1_outOfApproach u 1) 0) else (if (ma u) = 2 then (pX1_noneArmed u) else (mg_ (ma_ u 2) 1))
set_option maxHeartbeats 4000000 in
set_option maxRecDepth 100000 in
theorem kX1_approachButton (l : Launch) (D : va_G) (cI cZ : ClassId) (h : Nat → Nat) (sz : Nat) (u : MS) (n : Nat) (hI : InvM n u) (hn : n ≤ 1999800) : Mv l yX1_approachButton wsX1_approachButton { frames := 3, cells := 0, slots := 0, locals := 68 } D (tyl cI cZ) (wM cI cZ h) sz u [.ref (h 0)] (fun u9 => u9 = pX1_approachButton u ∧ InvM (n + 2) u9) := by
  refine Met.ofW (cc := cX1_approachButton) (maxL := 1) (ret := none) (by decide) rfl ?_
  intro p e s m args below meth c s₁ B hml hv
  obtain ⟨rfl, hsz, hP, hK, hD0⟩ := hv
  have hx := B.exec
  have hb := B.bytes
  have hr := B.returns
  have hts := atoms_spec (ws := wsX1_approachButton) B.pre
  have hin : ∀ w ∈ wsX10, w ∈ wsX1_approachButton := fun w h9 => List.mem_cons_of_mem _ (List.mem_append_right _ h9)
  have hown : s.vm.findClass RX1 = some m.cls := findClass_of_methodNamed B.named
  have hlocks := B.notSynchronized
  subst hsz
  have hD : va_D (va_A (wM cI cZ h u) s.heap.size) (wM cI cZ h u) := hD0.self (sz := s.heap.size)
  have hA : ∀ q : Nat, s.heap.size ≤ q → va_A (wM cI cZ h u) s.heap.size q := fun q h9 => Or.inr h9
  have hS : va_S (va_A (wM cI cZ h u) s.heap.size) s.heap s.heap [] := va_S.rf
  have hl := lv_entry ([.ref (h 0)]) (n := 1) (Nat.le_of_ble_eq_true rfl)
  rw [lg_entry_eq]
  generalize (lg_sl ([.ref (h 0)]) ++ List.replicate (1 - (lg_sl ([.ref (h 0)])).length) Slot.unset).toArray = ls at hl ⊢
  have hl : lv_has ls 1 [(0, .ref (h 0))] := hl
  generalize va_A (wM cI cZ h u) s.heap.size = A at hD hA hS ⊢
  refine lv_aload_n hx hb dX1_approachButton_0 rfl (lv_at hl 0 rfl) ?_
  refine va_get (D := D) (ci := 1) (v := .int (ml u)) (C := RX1) (T := TX1) (N := 15) hx hb hts hin hown hK hP 0 rfl rfl 1 (by decide) (hts (.fieldLink RX1 26 "ModeDeskModel" "lateral" "I") (by decide +kernel)) (fun _ h9 => h9) rfl dX1_approachButton_1 ?_
  refine lv_iconst (v := 4) hx hb dX1_approachButton_4 (by decide) ?_
  refine lv_icmp_ne (tgt := 21) hx hb dX1_approachButton_5 (by decide) (fun c1 => ?_) (fun c1 => ?_)
  · refine lv_aload_n hx hb dX1_approachButton_21 rfl (lv_at hl 0 rfl) ?_
    refine va_get (D := D) (ci := 1) (v := .int (ma u)) (C := RX1) (T := TX1) (N := 15) hx hb hts hin hown hK hP 0 rfl rfl 3 (by decide) (hts (.fieldLink RX1 42 "ModeDeskModel" "armedLateral" "I") (by decide +kernel)) (fun _ h9 => h9) rfl dX1_approachButton_22 ?_
    refine lv_iconst (v := 2) hx hb dX1_approachButton_25 (by decide) ?_
    refine lv_icmp_ne (tgt := 36) hx hb dX1_approachButton_26 (by decide) (fun c2 => ?_) (fun c2 => ?_)
    · refine lv_aload_n hx hb dX1_approachButton_36 rfl (lv_at hl 0 rfl) ?_
      refine lv_iconst (v := 2) hx hb dX1_approachButton_37 (by decide) ?_
      refine va_put (D := D) (ci := 1) (v := .int 2) (ty := .int) (C := RX1) (T := TX1) (N := 15) hx hb hts hin tyX1 tyX1_ok nmX1 hown hK hP hD hS 0 rfl rfl 3 (by decide) (hts (.fieldLink RX1 42 "ModeDeskModel" "armedLateral" "I") (by decide +kernel)) (fun _ h9 => h9) rfl (by decide +kernel) rfl rfl (Nat.le_of_ble_eq_true rfl) dX1_approachButton_38 (fun H4 locs hP hD hS => ?_)
      obtain ⟨u3, eu3⟩ : ∃ y : MS, y = ma_ u 2 := ⟨_, rfl⟩
      have hP : va_P D vwCl (wM cI cZ h u3) H4 := by rw [eu3]; exact hP
      have hD : va_D A (wM cI cZ h u3) := by rw [eu3]; exact hD
      have hIu3 : InvM n u3 := by rw [eu3]; exact InvM.sa hI _
      refine lv_aload_n hx hb dX1_approachButton_41 rfl (lv_at hl 0 rfl) ?_
      refine lv_iconst (v := 1) hx hb dX1_approachButton_42 (by decide) ?_
      refine va_put (D := D) (ci := 1) (v := .int 1) (ty := .boolean) (C := RX1) (T := TX1) (N := 15) hx hb hts hin tyX1 tyX1_ok nmX1 hown hK hP hD hS 0 rfl rfl 4 (by decide) (hts (.fieldLink RX1 45 "ModeDeskModel" "armedGlide" "Z") (by decide +kernel)) (fun _ h9 => h9) rfl (by decide +kernel) (bz_n bz1) (bz_f bz1) (Nat.le_of_ble_eq_true rfl) dX1_approachButton_43 (fun H6 locs hP hD hS => ?_)
      obtain ⟨u5, eu5⟩ : ∃ y : MS, y = mg_ u3 1 := ⟨_, rfl⟩
      have hP : va_P D vwCl (wM cI cZ h u5) H6 := by rw [eu5]; exact hP
      have hD : va_D A (wM cI cZ h u5) := by rw [eu5]; exact hD
      have hIu5 : InvM n u5 := by rw [eu5]; exact InvM.sg hIu3 bz1
      have hq1 : pX1_approachButton u = u5 := (by subst eu5; subst eu3; unfold pX1_approachButton; first | (rw [if_neg c1, if_neg c2]; done) | (rw [if_neg c1, if_neg c2]; rfl))
      exact W.vret hx hb hr (fun t ht hW => ⟨⟨u5, rfl, ⟨hq1.symm, (hIu5.mono (by omega))⟩, by rw [ht]; exact hP, va_K.moved hW.alike hK, hD⟩, hS.F ht⟩) hS.2.2 dX1_approachButton_46
    · refine lv_aload_n hx hb dX1_approachButton_29 rfl (lv_at hl 0 rfl) ?_
      have hFc := va_free (wc := wM cI cZ h u) hD hS hA [0, 1, 2] rfl
      refine va_callv (va_runV (As := []) (rest := []) ⟨hx, hb, hml, hown, hts⟩ (kX1_noneArmed l D cI cZ h s.heap.size u  n hI (by omega)) (cwV 0 hts gX1_approachButton_X1_noneArmed rfl rfl rfl (by decide +kernel) ⟨Nat.le_of_ble_eq_true rfl, Nat.le_of_ble_eq_true rfl⟩) ⟨bl_W, va_recv hK hP (ci := 1) (q0 := 0) rfl rfl, pr_W hP hK hD⟩ rfl rfl hl.1 rfl (lv_room (Nat.le_of_ble_eq_true rfl)) dX1_approachButton_30 ⟨Nat.zero_le _, Nat.zero_le _⟩) hS (fun q _ h9 => hFc q h9) hFc (fun u9 t H8 locs ht hvm hw hB hz1 hk1 hS => ?_)
      obtain ⟨hP, hK, hD⟩ := af_W hB ht hvm hFc
      clear hFc hB
      obtain ⟨eu9, hIu9⟩ := hw
      refine lv_goto (tgt := 46) hx hb dX1_approachButton_33 (by decide) ?_
      have hq1 : pX1_approachButton u = u9 := (by subst eu9; unfold pX1_approachButton; first | (rw [if_neg c1, if_pos c2]; done) | (rw [if_neg c1, if_pos c2]; rfl))
      exact W.vret hx hb hr (fun t ht hW => ⟨⟨u9, rfl, ⟨hq1.symm, (hIu9.mono (by omega))⟩, by rw [ht]; exact hP, va_K.moved hW.alike hK, hD⟩, hS.F ht⟩) hS.2.2 dX1_approachButton_46
  · refine lv_aload_n hx hb dX1_approachButton_8 rfl (lv_at hl 0 rfl) ?_
    refine lv_iconst (v := 1) hx hb dX1_approachButton_9 (by decide) ?_
    have hFc := va_free (wc := wM cI cZ h u) hD hS hA [0, 1, 2] rfl
    refine va_callv (va_runV (As := [.int 1]) (rest := []) ⟨hx, hb, hml, hown, hts⟩ (kX1_outOfApproach l D cI cZ h s.heap.size u 1 n hI (by omega)) (cwV 1 hts gX1_approachButton_X1_outOfApproach rfl rfl rfl (by decide +kernel) ⟨Nat.le_of_ble_eq_true rfl, Nat.le_of_ble_eq_true rfl⟩) ⟨bl_W, va_recv hK hP (ci := 1) (q0 := 0) rfl rfl, pr_W hP hK hD⟩ rfl rfl hl.1 rfl (lv_room (Nat.le_of_ble_eq_true rfl)) dX1_approachButton_10 ⟨Nat.zero_le _, Nat.zero_le _⟩) hS (fun q _ h9 => hFc q h9) hFc (fun u12 t H11 locs ht hvm hw hB hz1 hk1 hS => ?_)
    obtain ⟨hP, hK, hD⟩ := af_W hB ht hvm hFc
    clear hFc hB
    obtain ⟨eu12, hIu12⟩ := hw
    refine lv_aload_n hx hb dX1_approachButton_13 rfl (lv_at hl 0 rfl) ?_
    refine lv_iconst (v := 0) hx hb dX1_approachButton_14 (by decide) ?_
    refine va_put (D := D) (ci := 1) (v := .int 0) (ty := .boolean) (C := RX1) (T := TX1) (N := 15) hx hb hts hin tyX1 tyX1_ok nmX1 hown hK hP hD hS 0 rfl rfl 4 (by decide) (hts (.fieldLink RX1 45 "ModeDeskModel" "armedGlide" "Z") (by decide +kernel)) (fun _ h9 => h9) rfl (by decide +kernel) (bz_n bz0) (bz_f bz0) (Nat.le_of_ble_eq_true rfl) dX1_approachButton_15 (fun H14 locs hP hD hS => ?_)
    obtain ⟨u13, eu13⟩ : ∃ y : MS, y = mg_ u12 0 := ⟨_, rfl⟩
    have hP : va_P D vwCl (wM cI cZ h u13) H14 := by rw [eu13]; exact hP
    have hD : va_D A (wM cI cZ h u13) := by rw [eu13]; exact hD
    have hIu13 : InvM (n + 2) u13 := by rw [eu13]; exact InvM.sg hIu12 bz0
    refine lv_goto (tgt := 46) hx hb dX1_approachButton_18 (by decide) ?_
    have hq1 : pX1_approachButton u = u13 := (by subst eu13; subst eu12; unfold pX1_approachButton; first | (rw [if_pos c1]; done) | (rw [if_pos c1]; rfl))
    exact W.vret hx hb hr (fun t ht hW => ⟨⟨u13, rfl, ⟨hq1.symm, hIu13⟩, by rw [ht]; exact hP, va_K.moved hW.alike hK, hD⟩, hS.F ht⟩) hS.2.2 dX1_approachButton_46
def pX1_button (u : MS) (a1 : Int32) : MS := if a1 = 0 then (if (ml u) = 2 then (pX1_outOfApproach u 1) else (pX1_outOfApproach u 2)) else (if a1 = 1 then (pX1_navButton u) else (if a1 = 2 then (pX1_approachButton u) else (if 6 ≤ a1 then (if a1 = 6 then (if (mw (pX1_noneArmed u)) = 0 then (if (me (pX1_noneArmed u)) = 0 then (pX1_verticalTo (pX1_lateralTo (me_ (mw_ (pX1_noneArmed u) 0) 0) 5 0) 7 0) else (pX1_verticalTo (pX1_lateralTo (me_ (mw_ (pX1_noneArmed u) 1) 0) 5 0) 7 0)) else (pX1_verticalTo (pX1_lateralTo (me_ (mw_ (pX1_noneArmed u) 1) 0) 5 0) 7 0)) else (if a1 = 7 then (if (ml u) = 5 then (if (mv (pX1_lateralTo u 1 0)) = 7 then (pX1_verticalTo (pX1_lateralTo u 1 0) 1 0) else (pX1_verticalTo (pX1_lateralTo u 1 0) (mv (pX1_lateralTo u 1 0)) 0)) else (if (mv (pX1_lateralTo u (ml u) 0)) = 7 then (pX1_verticalTo (pX1_lateralTo u (ml u) 0) 1 0) else (pX1_verticalTo (pX1_lateralTo u (ml u) 0) (mv (pX1_lateralTo u (ml u) 0)) 0))) else (if a1 = 8 then (if (pX1_isBad u (1 - (mr u))) = 0 then (if (ml (mr_ u (1 - (mr u)))) ≤ 0 then (mr_ u (1 - (mr u))) else (pX1_base (mr_ u (1 - (mr u))) 0)) else (u)) else (if (ml u) = 0 then (if (mb u) = 0 then (pX1_base u 0) else (if (md u) = 0 then (pX1_base u 0) else (u))) else (if (me u) = 0 then (pX1_goOff u 0) else (u)))))) else (if (mv u) = 6 then (u) else (if (mv u) = (a1 - 1) then (pX1_verticalTo u 1 0) else (pX1_verticalTo u (a1 - 1) 0))))))
set_option maxHeartbeats 4000000 in
set_option maxRecDepth 100000 in
theorem kX1_button (l : Launch) (D : va_G) (cI cZ : ClassId) (h : Nat → Nat) (sz : Nat) (u : MS) (a1 : Int32) (n : Nat) (hI : InvM n u) (hn : n ≤ 1999700) : Mv l yX1_button wsX1_button { frames := 4, cells := 0, slots := 0, locals := 88 } D (tyl cI cZ) (wM cI cZ h) sz u [.ref (h 0), .int a1] (fun u9 => u9 = pX1_button u a1 ∧ InvM (n + 2) u9) := by
  refine Met.ofW (cc := cX1_button) (maxL := 2) (ret := none) (by decide) rfl ?_
  intro p e s m args below meth c s₁ B hml hv
  obtain ⟨rfl, hsz, hP, hK, hD0⟩ := hv
  have hx := B.exec
  have hb := B.bytes
  have hr := B.returns
  have hts := atoms_spec (ws := wsX1_button) B.pre
  have hin : ∀ w ∈ wsX10, w ∈ wsX1_button := fun w h9 => List.mem_cons_of_mem _ (List.mem_append_right _ h9)
  have hown : s.vm.findClass RX1 = some m.cls := findClass_of_methodNamed B.named
  have hlocks := B.notSynchronized
  subst hsz
  have hD : va_D (va_A (wM cI cZ h u) s.heap.size) (wM cI cZ h u) := hD0.self (sz := s.heap.size)
  have hA : ∀ q : Nat, s.heap.size ≤ q → va_A (wM cI cZ h u) s.heap.size q := fun q h9 => Or.inr h9
  have hS : va_S (va_A (wM cI cZ h u) s.heap.size) s.heap s.heap [] := va_S.rf
  have hl := lv_entry ([.ref (h 0), .int a1]) (n := 2) (Nat.le_of_ble_eq_true rfl)
  rw [lg_entry_eq]
  generalize (lg_sl ([.ref (h 0), .int a1]) ++ List.replicate (2 - (lg_sl ([.ref (h 0), .int a1])).length) Slot.unset).toArray = ls at hl ⊢
  have hl : lv_has ls 2 [(0, .ref (h 0)), (1, .int a1)] := hl
  generalize va_A (wM cI cZ h u) s.heap.size = A at hD hA hS ⊢
  refine lv_iload_n hx hb dX1_button_0 rfl (lv_at hl 1 rfl) ?_
  refine lv_if_ne (tgt := 24) hx hb dX1_button_1 (by decide) (fun c1 => ?_) (fun c1 => ?_)
  · refine lv_iload_n hx hb dX1_button_24 rfl (lv_at hl 1 rfl) ?_
    refine lv_iconst (v := 1) hx hb dX1_button_25 (by decide) ?_
    refine lv_icmp_ne (tgt := 36) hx hb dX1_button_26 (by decide) (fun c2 => ?_) (fun c2 => ?_)
    · refine lv_iload_n hx hb dX1_button_36 rfl (lv_at hl 1 rfl) ?_
      refine lv_iconst (v := 2) hx hb dX1_button_37 (by decide) ?_
      refine lv_icmp_ne (tgt := 48) hx hb dX1_button_38 (by decide) (fun c3 => ?_) (fun c3 => ?_)
      · refine lv_iload_n hx hb dX1_button_48 rfl (lv_at hl 1 rfl) ?_
        refine lv_bipush (v := 6) hx hb dX1_button_49 (by decide) ?_
        refine lv_icmp_ge (tgt := 88) hx hb dX1_button_51 (by decide) (fun c4 => ?_) (fun c4 => ?_)
        · refine lv_iload_n hx hb dX1_button_88 rfl (lv_at hl 1 rfl) ?_
          refine lv_bipush (v := 6) hx hb dX1_button_89 (by decide) ?_
          refine lv_icmp_ne (tgt := 142) hx hb dX1_button_91 (by decide) (fun c5 => ?_) (fun c5 => ?_)
          · refine lv_iload_n hx hb dX1_button_142 rfl (lv_at hl 1 rfl) ?_
            refine lv_bipush (v := 7) hx hb dX1_button_143 (by decide) ?_
            refine lv_icmp_ne (tgt := 194) hx hb dX1_button_145 (by decide) (fun c6 => ?_) (fun c6 => ?_)
            · refine lv_iload_n hx hb dX1_button_194 rfl (lv_at hl 1 rfl) ?_
              refine lv_bipush (v := 8) hx hb dX1_button_195 (by decide) ?_
              refine lv_icmp_ne (tgt := 238) hx hb dX1_button_197 (by decide) (fun c7 => ?_) (fun c7 => ?_)
              · refine lv_aload_n hx hb dX1_button_238 rfl (lv_at hl 0 rfl) ?_
                refine va_get (D := D) (ci := 1) (v := .int (ml u)) (C := RX1) (T := TX1) (N := 15) hx hb hts hin hown hK hP 0 rfl rfl 1 (by decide) (hts (.fieldLink RX1 26 "ModeDeskModel" "lateral" "I") (by decide +kernel)) (fun _ h9 => h9) rfl dX1_button_239 ?_
                refine lv_if_ne (tgt := 267) hx hb dX1_button_242 (by decide) (fun c8 => ?_) (fun c8 => ?_)
                · refine lv_aload_n hx hb dX1_button_267 rfl (lv_at hl 0 rfl) ?_
                  refine va_get (D := D) (ci := 1) (v := .int (me u)) (C := RX1) (T := TX1) (N := 15) hx hb hts hin hown hK hP 0 rfl rfl 5 (by decide) (hts (.fieldLink RX1 62 "ModeDeskModel" "engaged" "Z") (by decide +kernel)) (fun _ h9 => h9) rfl dX1_button_268 ?_
                  refine lv_if_ne (tgt := 279) hx hb dX1_button_271 (by decide) (fun c9 => ?_) (fun c9 => ?_)
                  · have hq1 : pX1_button u a1 = u := (by unfold pX1_button; first | (rw [if_neg c1, if_neg c2, if_neg c3, if_pos c4, if_neg c5, if_neg c6, if_neg c7, if_neg c8, if_neg c9]; done) | (rw [if_neg c1, if_neg c2, if_neg c3, if_pos c4, if_neg c5, if_neg c6, if_neg c7, if_neg c8, if_neg c9]; rfl))
                    exact W.vret hx hb hr (fun t ht hW => ⟨⟨u, rfl, ⟨hq1.symm, (hI.mono (by omega))⟩, by rw [ht]; exact hP, va_K.moved hW.alike hK, hD⟩, hS.F ht⟩) hS.2.2 dX1_button_279
                  · refine lv_aload_n hx hb dX1_button_274 rfl (lv_at hl 0 rfl) ?_
                    refine lv_iconst (v := 0) hx hb dX1_button_275 (by decide) ?_
                    have hFc := va_free (wc := wM cI cZ h u) hD hS hA [0, 1, 2] rfl
                    refine va_callv (va_runV (As := [.int 0]) (rest := []) ⟨hx, hb, hml, hown, hts⟩ (kX1_goOff l D cI cZ h s.heap.size u 0 n hI (by omega)) (cwV 1 hts gX1_button_X1_goOff rfl rfl rfl (by decide +kernel) ⟨Nat.le_of_ble_eq_true rfl, Nat.le_of_ble_eq_true rfl⟩) ⟨bl_W, va_recv hK hP (ci := 1) (q0 := 0) rfl rfl, pr_W hP hK hD⟩ rfl rfl hl.1 rfl (lv_room (Nat.le_of_ble_eq_true rfl)) dX1_button_276 ⟨Nat.zero_le _, Nat.zero_le _⟩) hS (fun q _ h9 => hFc q h9) hFc (fun u12 t H11 locs ht hvm hw hB hz1 hk1 hS => ?_)
                    obtain ⟨hP, hK, hD⟩ := af_W hB ht hvm hFc
                    clear hFc hB
                    obtain ⟨eu12, hIu12⟩ := hw
                    have hq1 : pX1_button u a1 = u12 := (by subst eu12; unfold pX1_button; first | (rw [if_neg c1, if_neg c2, if_neg c3, if_pos c4, if_neg c5, if_neg c6, if_neg c7, if_neg c8, if_pos c9]; done) | (rw [if_neg c1, if_neg c2, if_neg c3, if_pos c4, if_neg c5, if_neg c6, if_neg c7, if_neg c8, if_pos c9]; rfl))
                    exact W.vret hx hb hr (fun t ht hW => ⟨⟨u12, rfl, ⟨hq1.symm, hIu12⟩, by rw [ht]; exact hP, va_K.moved hW.alike hK, hD⟩, hS.F ht⟩) hS.2.2 dX1_button_279
                · refine lv_aload_n hx hb dX1_button_245 rfl (lv_at hl 0 rfl) ?_
                  refine va_get (D := D) (ci := 1) (v := .int (mb u)) (C := RX1) (T := TX1) (N := 15) hx hb hts hin hown hK hP 0 rfl rfl 7 (by decide) (hts (.fieldLink RX1 65 "ModeDeskModel" "bad0" "Z") (by decide +kernel)) (fun _ h9 => h9) rfl dX1_button_246 ?_
                  refine lv_if_eq (tgt := 259) hx hb dX1_button_249 (by decide) (fun c13 => ?_) (fun c13 => ?_)
                  · refine lv_aload_n hx hb dX1_button_259 rfl (lv_at hl 0 rfl) ?_
                    refine lv_iconst (v := 0) hx hb dX1_button_260 (by decide) ?_
                    have hFc := va_free (wc := wM cI cZ h u) hD hS hA [0, 1, 2] rfl
                    refine va_callv (va_runV (As := [.int 0]) (rest := []) ⟨hx, hb, hml, hown, hts⟩ (kX1_base l D cI cZ h s.heap.size u 0 n hI (by omega)) (cwV 1 hts gX1_button_X1_base rfl rfl rfl (by decide +kernel) ⟨Nat.le_of_ble_eq_true rfl, Nat.le_of_ble_eq_true rfl⟩) ⟨bl_W, va_recv hK hP (ci := 1) (q0 := 0) rfl rfl, pr_W hP hK hD⟩ rfl rfl hl.1 rfl (lv_room (Nat.le_of_ble_eq_true rfl)) dX1_button_261 ⟨Nat.zero_le _, Nat.zero_le _⟩) hS (fun q _ h9 => hFc q h9) hFc (fun u16 t H15 locs ht hvm hw hB hz1 hk1 hS => ?_)
                    obtain ⟨hP, hK, hD⟩ := af_W hB ht hvm hFc
                    clear hFc hB
                    obtain ⟨eu16, hIu16⟩ := hw
                    refine lv_goto (tgt := 279) hx hb dX1_button_264 (by decide) ?_
                    have hq1 : pX1_button u a1 = u16 := (by subst eu16; unfold pX1_button; first | (rw [if_neg c1, if_neg c2, if_neg c3, if_pos c4, if_neg c5, if_neg c6, if_neg c7, if_pos c8, if_pos c13]; done) | (rw [if_neg c1, if_neg c2, if_neg c3, if_pos c4, if_neg c5, if_neg c6, if_neg c7, if_pos c8, if_pos c13]; rfl))
                    exact W.vret hx hb hr (fun t ht hW => ⟨⟨u16, rfl, ⟨hq1.symm, hIu16⟩, by rw [ht]; exact hP, va_K.moved hW.alike hK, hD⟩, hS.F ht⟩) hS.2.2 dX1_button_279
                  · refine lv_aload_n hx hb dX1_button_252 rfl (lv_at hl 0 rfl) ?_
                    refine va_get (D := D) (ci := 1) (v := .int (md u)) (C := RX1) (T := TX1) (N := 15) hx hb hts hin hown hK hP 0 rfl rfl 8 (by decide) (hts (.fieldLink RX1 68 "ModeDeskModel" "bad1" "Z") (by decide +kernel)) (fun _ h9 => h9) rfl dX1_button_253 ?_
                    refine lv_if_ne (tgt := 279) hx hb dX1_button_256 (by decide) (fun c17 => ?_) (fun c17 => ?_)
                    · have hq1 : pX1_button u a1 = u := (by unfold pX1_button; first | (rw [if_neg c1, if_neg c2, if_neg c3, if_pos c4, if_neg c5, if_neg c6, if_neg c7, if_pos c8, if_neg c13, if_neg c17]; done) | (rw [if_neg c1, if_neg c2, if_neg c3, if_pos c4, if_neg c5, if_neg c6, if_neg c7, if_pos c8, if_neg c13, if_neg c17]; rfl))
                      exact W.vret hx hb hr (fun t ht hW => ⟨⟨u, rfl, ⟨hq1.symm, (hI.mono (by omega))⟩, by rw [ht]; exact hP, va_K.moved hW.alike hK, hD⟩, hS.F ht⟩) hS.2.2 dX1_button_279
                    · refine lv_aload_n hx hb dX1_button_259 rfl (lv_at hl 0 rfl) ?_
                      refine lv_iconst (v := 0) hx hb dX1_button_260 (by decide) ?_
                      have hFc := va_free (wc := wM cI cZ h u) hD hS hA [0, 1, 2] rfl
                      refine va_callv (va_runV (As := [.int 0]) (rest := []) ⟨hx, hb, hml, hown, hts⟩ (kX1_base l D cI cZ h s.heap.size u 0 n hI (by omega)) (cwV 1 hts gX1_button_X1_base rfl rfl rfl (by decide +kernel) ⟨Nat.le_of_ble_eq_true rfl, Nat.le_of_ble_eq_true rfl⟩) ⟨bl_W, va_recv hK hP (ci := 1) (q0 := 0) rfl rfl, pr_W hP hK hD⟩ rfl rfl hl.1 rfl (lv_room (Nat.le_of_ble_eq_true rfl)) dX1_button_261 ⟨Nat.zero_le _, Nat.zero_le _⟩) hS (fun q _ h9 => hFc q h9) hFc (fun u20 t H19 locs ht hvm hw hB hz1 hk1 hS => ?_)
                      obtain ⟨hP, hK, hD⟩ := af_W hB ht hvm hFc
                      clear hFc hB
                      obtain ⟨eu20, hIu20⟩ := hw
                      refine lv_goto (tgt := 279) hx hb dX1_button_264 (by decide) ?_
                      have hq1 : pX1_button u a1 = u20 := (by subst eu20; unfold pX1_button; first | (rw [if_neg c1, if_neg c2, if_neg c3, if_pos c4, if_neg c5, if_neg c6, if_neg c7, if_pos c8, if_neg c13, if_pos c17]; done) | (rw [if_neg c1, if_neg c2, if_neg c3, if_pos c4, if_neg c5, if_neg c6, if_neg c7, if_pos c8, if_neg c13, if_pos c17]; rfl))
                      exact W.vret hx hb hr (fun t ht hW => ⟨⟨u20, rfl, ⟨hq1.symm, hIu20⟩, by rw [ht]; exact hP, va_K.moved hW.alike hK, hD⟩, hS.F ht⟩) hS.2.2 dX1_button_279
              · refine lv_aload_n hx hb dX1_button_200 rfl (lv_at hl 0 rfl) ?_
                refine lv_iconst (v := 1) hx hb dX1_button_201 (by decide) ?_
                refine lv_aload_n hx hb dX1_button_202 rfl (lv_at hl 0 rfl) ?_
                refine va_get (D := D) (ci := 1) (v := .int (mr u)) (C := RX1) (T := TX1) (N := 15) hx hb hts hin hown hK hP 0 rfl rfl 9 (by decide) (hts (.fieldLink RX1 16 "ModeDeskModel" "leader" "I") (by decide +kernel)) (fun _ h9 => h9) rfl dX1_button_203 ?_
                refine lv_isub hx hb dX1_button_206 ?_
                have hFc := va_free (wc := wM cI cZ h u) hD hS hA [0, 1, 2] rfl
                refine va_calli (va_runV (As := [.int (1 - (mr u))]) (rest := []) ⟨hx, hb, hml, hown, hts⟩ (kX1_isBad l D cI cZ h s.heap.size u (1 - (mr u)) n hI (by omega)) (cwV 1 hts gX1_button_X1_isBad rfl rfl rfl (by decide +kernel) ⟨Nat.le_of_ble_eq_true rfl, Nat.le_of_ble_eq_true rfl⟩) ⟨bl_W, va_recv hK hP (ci := 1) (q0 := 0) rfl rfl, pr_W hP hK hD⟩ rfl rfl hl.1 rfl (lv_room (Nat.le_of_ble_eq_true rfl)) dX1_button_207 ⟨Nat.zero_le _, Nat.zero_le _⟩) hS (fun q _ h9 => hFc q h9) hFc (fun r21 u23 t H22 locs ht hvm hw hB hz1 hk1 hS => ?_)
                obtain ⟨hP, hK, hD⟩ := af_W hB ht hvm hFc
                clear hFc hB
                obtain ⟨er21, eu23, br21⟩ := hw
                rw [eu23] at hP hD
                refine lv_if_ne (tgt := 279) hx hb dX1_button_210 (by decide) (fun c24 => ?_) (fun c24 => ?_)
                · have hq1 : pX1_button u a1 = u := (by subst er21; unfold pX1_button; first | (rw [if_neg c1, if_neg c2, if_neg c3, if_pos c4, if_neg c5, if_neg c6, if_pos c7, if_neg c24]; done) | (rw [if_neg c1, if_neg c2, if_neg c3, if_pos c4, if_neg c5, if_neg c6, if_pos c7, if_neg c24]; rfl))
                  exact W.vret hx hb hr (fun t ht hW => ⟨⟨u, rfl, ⟨hq1.symm, (hI.mono (by omega))⟩, by rw [ht]; exact hP, va_K.moved hW.alike hK, hD⟩, hS.F ht⟩) hS.2.2 dX1_button_279
                · refine lv_aload_n hx hb dX1_button_213 rfl (lv_at hl 0 rfl) ?_
                  refine lv_iconst (v := 1) hx hb dX1_button_214 (by decide) ?_
                  refine lv_aload_n hx hb dX1_button_215 rfl (lv_at hl 0 rfl) ?_
                  refine va_get (D := D) (ci := 1) (v := .int (mr u)) (C := RX1) (T := TX1) (N := 15) hx hb hts hin hown hK hP 0 rfl rfl 9 (by decide) (hts (.fieldLink RX1 16 "ModeDeskModel" "leader" "I") (by decide +kernel)) (fun _ h9 => h9) rfl dX1_button_216 ?_
                  refine lv_isub hx hb dX1_button_219 ?_
                  refine va_put (D := D) (ci := 1) (v := .int (1 - (mr u))) (ty := .int) (C := RX1) (T := TX1) (N := 15) hx hb hts hin tyX1 tyX1_ok nmX1 hown hK hP hD hS 0 rfl rfl 9 (by decide) (hts (.fieldLink RX1 16 "ModeDeskModel" "leader" "I") (by decide +kernel)) (fun _ h9 => h9) rfl (by decide +kernel) rfl rfl (Nat.le_of_ble_eq_true rfl) dX1_button_220 (fun H26 locs hP hD hS => ?_)
                  obtain ⟨u25, eu25⟩ : ∃ y : MS, y = mr_ u (1 - (mr u)) := ⟨_, rfl⟩
                  have hP : va_P D vwCl (wM cI cZ h u25) H26 := by rw [eu25]; exact hP
                  have hD : va_D A (wM cI cZ h u25) := by rw [eu25]; exact hD
                  have hIu25 : InvM n u25 := by rw [eu25]; exact InvM.sr hI (bz_s hI.2.2.2.2.2.1)
                  refine lv_aload_n hx hb dX1_button_223 rfl (lv_at hl 0 rfl) ?_
                  refine va_get (D := D) (ci := 1) (v := .int (ml u25)) (C := RX1) (T := TX1) (N := 15) hx hb hts hin hown hK hP 0 rfl rfl 1 (by decide) (hts (.fieldLink RX1 26 "ModeDeskModel" "lateral" "I") (by decide +kernel)) (fun _ h9 => h9) rfl dX1_button_224 ?_
                  refine lv_if_le (tgt := 279) hx hb dX1_button_227 (by decide) (fun c27 => ?_) (fun c27 => ?_)
                  · have hq1 : pX1_button u a1 = u25 := (by subst eu25; subst er21; unfold pX1_button; first | (rw [if_neg c1, if_neg c2, if_neg c3, if_pos c4, if_neg c5, if_neg c6, if_pos c7, if_pos c24, if_pos c27]; done) | (rw [if_neg c1, if_neg c2, if_neg c3, if_pos c4, if_neg c5, if_neg c6, if_pos c7, if_pos c24, if_pos c27]; rfl))
                    exact W.vret hx hb hr (fun t ht hW => ⟨⟨u25, rfl, ⟨hq1.symm, (hIu25.mono (by omega))⟩, by rw [ht]; exact hP, va_K.moved hW.alike hK, hD⟩, hS.F ht⟩) hS.2.2 dX1_button_279
                  · refine lv_aload_n hx hb dX1_button_230 rfl (lv_at hl 0 rfl) ?_
                    refine lv_iconst (v := 0) hx hb dX1_button_231 (by decide) ?_
                    have hFc := va_free (wc := wM cI cZ h u25) hD hS hA [0, 1, 2] rfl
                    refine va_callv (va_runV (As := [.int 0]) (rest := []) ⟨hx, hb, hml, hown, hts⟩ (kX1_base l D cI cZ h H26.size u25 0 n hIu25 (by omega)) (cwV 1 hts gX1_button_X1_base rfl rfl rfl (by decide +kernel) ⟨Nat.le_of_ble_eq_true rfl, Nat.le_of_ble_eq_true rfl⟩) ⟨bl_W, va_recv hK hP (ci := 1) (q0 := 0) rfl rfl, pr_W hP hK hD⟩ rfl rfl hl.1 rfl (lv_room (Nat.le_of_ble_eq_true rfl)) dX1_button_232 ⟨Nat.zero_le _, Nat.zero_le _⟩) hS (fun q _ h9 => hFc q h9) hFc (fun u30 t H29 locs ht hvm hw hB hz1 hk1 hS => ?_)
                    obtain ⟨hP, hK, hD⟩ := af_W hB ht hvm hFc
                    clear hFc hB
                    obtain ⟨eu30, hIu30⟩ := hw
                    refine lv_goto (tgt := 279) hx hb dX1_button_235 (by decide) ?_
                    have hq1 : pX1_button u a1 = u30 := (by subst eu30; subst eu25; subst er21; unfold pX1_button; first | (rw [if_neg c1, if_neg c2, if_neg c3, if_pos c4, if_neg c5, if_neg c6, if_pos c7, if_pos c24, if_neg c27]; done) | (rw [if_neg c1, if_neg c2, if_neg c3, if_pos c4, if_neg c5, if_neg c6, if_pos c7, if_pos c24, if_neg c27]; rfl))
                    exact W.vret hx hb hr (fun t ht hW => ⟨⟨u30, rfl, ⟨hq1.symm, hIu30⟩, by rw [ht]; exact hP, va_K.moved hW.alike hK, hD⟩, hS.F ht⟩) hS.2.2 dX1_button_279
            · refine lv_aload_n hx hb dX1_button_148 rfl (lv_at hl 0 rfl) ?_
              refine lv_aload_n hx hb dX1_button_149 rfl (lv_at hl 0 rfl) ?_
              refine va_get (D := D) (ci := 1) (v := .int (ml u)) (C := RX1) (T := TX1) (N := 15) hx hb hts hin hown hK hP 0 rfl rfl 1 (by decide) (hts (.fieldLink RX1 26 "ModeDeskModel" "lateral" "I") (by decide +kernel)) (fun _ h9 => h9) rfl dX1_button_150 ?_
              refine lv_iconst (v := 5) hx hb dX1_button_153 (by decide) ?_
              refine lv_icmp_ne (tgt := 161) hx hb dX1_button_154 (by decide) (fun c31 => ?_) (fun c31 => ?_)
              · refine lv_aload_n hx hb dX1_button_161 rfl (lv_at hl 0 rfl) ?_
                refine va_get (D := D) (ci := 1) (v := .int (ml u)) (C := RX1) (T := TX1) (N := 15) hx hb hts hin hown hK hP 0 rfl rfl 1 (by decide) (hts (.fieldLink RX1 26 "ModeDeskModel" "lateral" "I") (by decide +kernel)) (fun _ h9 => h9) rfl dX1_button_162 ?_
                refine lv_iconst (v := 0) hx hb dX1_button_165 (by decide) ?_
                have hFc := va_free (wc := wM cI cZ h u) hD hS hA [0, 1, 2] rfl
                refine va_callv (va_runV (As := [.int (ml u), .int 0]) (rest := []) ⟨hx, hb, hml, hown, hts⟩ (kX1_lateralTo l D cI cZ h s.heap.size u (ml u) 0 n hI (by omega)) (cwV 2 hts gX1_button_X1_lateralTo rfl rfl rfl (by decide +kernel) ⟨Nat.le_of_ble_eq_true rfl, Nat.le_of_ble_eq_true rfl⟩) ⟨bl_W, va_recv hK hP (ci := 1) (q0 := 0) rfl rfl, pr_W hP hK hD⟩ rfl rfl hl.1 rfl (lv_room (Nat.le_of_ble_eq_true rfl)) dX1_button_166 ⟨Nat.zero_le _, Nat.zero_le _⟩) hS (fun q _ h9 => hFc q h9) hFc (fun u34 t H33 locs ht hvm hw hB hz1 hk1 hS => ?_)
                obtain ⟨hP, hK, hD⟩ := af_W hB ht hvm hFc
                clear hFc hB
                obtain ⟨eu34, hIu34⟩ := hw
                refine lv_aload_n hx hb dX1_button_169 rfl (lv_at hl 0 rfl) ?_
                refine lv_aload_n hx hb dX1_button_170 rfl (lv_at hl 0 rfl) ?_
                refine va_get (D := D) (ci := 1) (v := .int (mv u34)) (C := RX1) (T := TX1) (N := 15) hx hb hts hin hown hK hP 0 rfl rfl 2 (by decide) (hts (.fieldLink RX1 36 "ModeDeskModel" "vertical" "I") (by decide +kernel)) (fun _ h9 => h9) rfl dX1_button_171 ?_
                refine lv_bipush (v := 7) hx hb dX1_button_174 (by decide) ?_
                refine lv_icmp_ne (tgt := 183) hx hb dX1_button_176 (by decide) (fun c35 => ?_) (fun c35 => ?_)
                · refine lv_aload_n hx hb dX1_button_183 rfl (lv_at hl 0 rfl) ?_
                  refine va_get (D := D) (ci := 1) (v := .int (mv u34)) (C := RX1) (T := TX1) (N := 15) hx hb hts hin hown hK hP 0 rfl rfl 2 (by decide) (hts (.fieldLink RX1 36 "ModeDeskModel" "vertical" "I") (by decide +kernel)) (fun _ h9 => h9) rfl dX1_button_184 ?_
                  refine lv_iconst (v := 0) hx hb dX1_button_187 (by decide) ?_
                  have hFc := va_free (wc := wM cI cZ h u34) hD hS hA [0, 1, 2] rfl
                  refine va_callv (va_runV (As := [.int (mv u34), .int 0]) (rest := []) ⟨hx, hb, hml, hown, hts⟩ (kX1_verticalTo l D cI cZ h H33.size u34 (mv u34) 0 (n + 1) hIu34 (by omega)) (cwV 2 hts gX1_button_X1_verticalTo rfl rfl rfl (by decide +kernel) ⟨Nat.le_of_ble_eq_true rfl, Nat.le_of_ble_eq_true rfl⟩) ⟨bl_W, va_recv hK hP (ci := 1) (q0 := 0) rfl rfl, pr_W hP hK hD⟩ rfl rfl hl.1 rfl (lv_room (Nat.le_of_ble_eq_true rfl)) dX1_button_188 ⟨Nat.zero_le _, Nat.zero_le _⟩) hS (fun q _ h9 => hFc q h9) hFc (fun u38 t H37 locs ht hvm hw hB hz1 hk1 hS => ?_)
                  obtain ⟨hP, hK, hD⟩ := af_W hB ht hvm hFc
                  clear hFc hB
                  obtain ⟨eu38, hIu38⟩ := hw
                  have hIu38 : InvM (n + 2) u38 := hIu38.mono (by omega)
                  refine lv_goto (tgt := 279) hx hb dX1_button_191 (by decide) ?_
                  have hq1 : pX1_button u a1 = u38 := (by subst eu38; subst eu34; unfold pX1_button; first | (rw [if_neg c1, if_neg c2, if_neg c3, if_pos c4, if_neg c5, if_pos c6, if_neg c31, if_neg c35]; done) | (rw [if_neg c1, if_neg c2, if_neg c3, if_pos c4, if_neg c5, if_pos c6, if_neg c31, if_neg c35]; rfl))
                  exact W.vret hx hb hr (fun t ht hW => ⟨⟨u38, rfl, ⟨hq1.symm, hIu38⟩, by rw [ht]; exact hP, va_K.moved hW.alike hK, hD⟩, hS.F ht⟩) hS.2.2 dX1_button_279
                · refine lv_iconst (v := 1) hx hb dX1_button_179 (by decide) ?_
                  refine lv_goto (tgt := 187) hx hb dX1_button_180 (by decide) ?_
                  refine lv_iconst (v := 0) hx hb dX1_button_187 (by decide) ?_
                  have hFc := va_free (wc := wM cI cZ h u34) hD hS hA [0, 1, 2] rfl
                  refine va_callv (va_runV (As := [.int 1, .int 0]) (rest := []) ⟨hx, hb, hml, hown, hts⟩ (kX1_verticalTo l D cI cZ h H33.size u34 1 0 (n + 1) hIu34 (by omega)) (cwV 2 hts gX1_button_X1_verticalTo rfl rfl rfl (by decide +kernel) ⟨Nat.le_of_ble_eq_true rfl, Nat.le_of_ble_eq_true rfl⟩) ⟨bl_W, va_recv hK hP (ci := 1) (q0 := 0) rfl rfl, pr_W hP hK hD⟩ rfl rfl hl.1 rfl (lv_room (Nat.le_of_ble_eq_true rfl)) dX1_button_188 ⟨Nat.zero_le _, Nat.zero_le _⟩) hS (fun q _ h9 => hFc q h9) hFc (fun u41 t H40 locs ht hvm hw hB hz1 hk1 hS => ?_)
                  obtain ⟨hP, hK, hD⟩ := af_W hB ht hvm hFc
                  clear hFc hB
                  obtain ⟨eu41, hIu41⟩ := hw
                  have hIu41 : InvM (n + 2) u41 := hIu41.mono (by omega)
                  refine lv_goto (tgt := 279) hx hb dX1_button_191 (by decide) ?_
                  have hq1 : pX1_button u a1 = u41 := (by subst eu41; subst eu34; unfold pX1_button; first | (rw [if_neg c1, if_neg c2, if_neg c3, if_pos c4, if_neg c5, if_pos c6, if_neg c31, if_pos c35]; done) | (rw [if_neg c1, if_neg c2, if_neg c3, if_pos c4, if_neg c5, if_pos c6, if_neg c31, if_pos c35]; rfl))
                  exact W.vret hx hb hr (fun t ht hW => ⟨⟨u41, rfl, ⟨hq1.symm, hIu41⟩, by rw [ht]; exact hP, va_K.moved hW.alike hK, hD⟩, hS.F ht⟩) hS.2.2 dX1_button_279
              · refine lv_iconst (v := 1) hx hb dX1_button_157 (by decide) ?_
                refine lv_goto (tgt := 165) hx hb dX1_button_158 (by decide) ?_
                refine lv_iconst (v := 0) hx hb dX1_button_165 (by decide) ?_
                have hFc := va_free (wc := wM cI cZ h u) hD hS hA [0, 1, 2] rfl
                refine va_callv (va_runV (As := [.int 1, .int 0]) (rest := []) ⟨hx, hb, hml, hown, hts⟩ (kX1_lateralTo l D cI cZ h s.heap.size u 1 0 n hI (by omega)) (cwV 2 hts gX1_button_X1_lateralTo rfl rfl rfl (by decide +kernel) ⟨Nat.le_of_ble_eq_true rfl, Nat.le_of_ble_eq_true rfl⟩) ⟨bl_W, va_recv hK hP (ci := 1) (q0 := 0) rfl rfl, pr_W hP hK hD⟩ rfl rfl hl.1 rfl (lv_room (Nat.le_of_ble_eq_true rfl)) dX1_button_166 ⟨Nat.zero_le _, Nat.zero_le _⟩) hS (fun q _ h9 => hFc q h9) hFc (fun u44 t H43 locs ht hvm hw hB hz1 hk1 hS => ?_)
                obtain ⟨hP, hK, hD⟩ := af_W hB ht hvm hFc
                clear hFc hB
                obtain ⟨eu44, hIu44⟩ := hw
                refine lv_aload_n hx hb dX1_button_169 rfl (lv_at hl 0 rfl) ?_
                refine lv_aload_n hx hb dX1_button_170 rfl (lv_at hl 0 rfl) ?_
                refine va_get (D := D) (ci := 1) (v := .int (mv u44)) (C := RX1) (T := TX1) (N := 15) hx hb hts hin hown hK hP 0 rfl rfl 2 (by decide) (hts (.fieldLink RX1 36 "ModeDeskModel" "vertical" "I") (by decide +kernel)) (fun _ h9 => h9) rfl dX1_button_171 ?_
                refine lv_bipush (v := 7) hx hb dX1_button_174 (by decide) ?_
                refine lv_icmp_ne (tgt := 183) hx hb dX1_button_176 (by decide) (fun c45 => ?_) (fun c45 => ?_)
                · refine lv_aload_n hx hb dX1_button_183 rfl (lv_at hl 0 rfl) ?_
                  refine va_get (D := D) (ci := 1) (v := .int (mv u44)) (C := RX1) (T := TX1) (N := 15) hx hb hts hin hown hK hP 0 rfl rfl 2 (by decide) (hts (.fieldLink RX1 36 "ModeDeskModel" "vertical" "I") (by decide +kernel)) (fun _ h9 => h9) rfl dX1_button_184 ?_
                  refine lv_iconst (v := 0) hx hb dX1_button_187 (by decide) ?_
                  have hFc := va_free (wc := wM cI cZ h u44) hD hS hA [0, 1, 2] rfl
                  refine va_callv (va_runV (As := [.int (mv u44), .int 0]) (rest := []) ⟨hx, hb, hml, hown, hts⟩ (kX1_verticalTo l D cI cZ h H43.size u44 (mv u44) 0 (n + 1) hIu44 (by omega)) (cwV 2 hts gX1_button_X1_verticalTo rfl rfl rfl (by decide +kernel) ⟨Nat.le_of_ble_eq_true rfl, Nat.le_of_ble_eq_true rfl⟩) ⟨bl_W, va_recv hK hP (ci := 1) (q0 := 0) rfl rfl, pr_W hP hK hD⟩ rfl rfl hl.1 rfl (lv_room (Nat.le_of_ble_eq_true rfl)) dX1_button_188 ⟨Nat.zero_le _, Nat.zero_le _⟩) hS (fun q _ h9 => hFc q h9) hFc (fun u48 t H47 locs ht hvm hw hB hz1 hk1 hS => ?_)
                  obtain ⟨hP, hK, hD⟩ := af_W hB ht hvm hFc
                  clear hFc hB
                  obtain ⟨eu48, hIu48⟩ := hw
                  have hIu48 : InvM (n + 2) u48 := hIu48.mono (by omega)
                  refine lv_goto (tgt := 279) hx hb dX1_button_191 (by decide) ?_
                  have hq1 : pX1_button u a1 = u48 := (by subst eu48; subst eu44; unfold pX1_button; first | (rw [if_neg c1, if_neg c2, if_neg c3, if_pos c4, if_neg c5, if_pos c6, if_pos c31, if_neg c45]; done) | (rw [if_neg c1, if_neg c2, if_neg c3, if_pos c4, if_neg c5, if_pos c6, if_pos c31, if_neg c45]; rfl))
                  exact W.vret hx hb hr (fun t ht hW => ⟨⟨u48, rfl, ⟨hq1.symm, hIu48⟩, by rw [ht]; exact hP, va_K.moved hW.alike hK, hD⟩, hS.F ht⟩) hS.2.2 dX1_button_279
                · refine lv_iconst (v := 1) hx hb dX1_button_179 (by decide) ?_
                  refine lv_goto (tgt := 187) hx hb dX1_button_180 (by decide) ?_
                  refine lv_iconst (v := 0) hx hb dX1_button_187 (by decide) ?_
                  have hFc := va_free (wc := wM cI cZ h u44) hD hS hA [0, 1, 2] rfl
                  refine va_callv (va_runV (As := [.int 1, .int 0]) (rest := []) ⟨hx, hb, hml, hown, hts⟩ (kX1_verticalTo l D cI cZ h H43.size u44 1 0 (n + 1) hIu44 (by omega)) (cwV 2 hts gX1_button_X1_verticalTo rfl rfl rfl (by decide +kernel) ⟨Nat.le_of_ble_eq_true rfl, Nat.le_of_ble_eq_true rfl⟩) ⟨bl_W, va_recv hK hP (ci := 1) (q0 := 0) rfl rfl, pr_W hP hK hD⟩ rfl rfl hl.1 rfl (lv_room (Nat.le_of_ble_eq_true rfl)) dX1_button_188 ⟨Nat.zero_le _, Nat.zero_le _⟩) hS (fun q _ h9 => hFc q h9) hFc (fun u51 t H50 locs ht hvm hw hB hz1 hk1 hS => ?_)
                  obtain ⟨hP, hK, hD⟩ := af_W hB ht hvm hFc
                  clear hFc hB
                  obtain ⟨eu51, hIu51⟩ := hw
                  have hIu51 : InvM (n + 2) u51 := hIu51.mono (by omega)
                  refine lv_goto (tgt := 279) hx hb dX1_button_191 (by decide) ?_
                  have hq1 : pX1_button u a1 = u51 := (by subst eu51; subst eu44; unfold pX1_button; first | (rw [if_neg c1, if_neg c2, if_neg c3, if_pos c4, if_neg c5, if_pos c6, if_pos c31, if_pos c45]; done) | (rw [if_neg c1, if_neg c2, if_neg c3, if_pos c4, if_neg c5, if_pos c6, if_pos c31, if_pos c45]; rfl))
                  exact W.vret hx hb hr (fun t ht hW => ⟨⟨u51, rfl, ⟨hq1.symm, hIu51⟩, by rw [ht]; exact hP, va_K.moved hW.alike hK, hD⟩, hS.F ht⟩) hS.2.2 dX1_button_279
          · refine lv_aload_n hx hb dX1_button_94 rfl (lv_at hl 0 rfl) ?_
            have hFc := va_free (wc := wM cI cZ h u) hD hS hA [0, 1, 2] rfl
            refine va_callv (va_runV (As := []) (rest := []) ⟨hx, hb, hml, hown, hts⟩ (kX1_noneArmed l D cI cZ h s.heap.size u  n hI (by omega)) (cwV 0 hts gX1_button_X1_noneArmed rfl rfl rfl (by decide +kernel) ⟨Nat.le_of_ble_eq_true rfl, Nat.le_of_ble_eq_true rfl⟩) ⟨bl_W, va_recv hK hP (ci := 1) (q0 := 0) rfl rfl, pr_W hP hK hD⟩ rfl rfl hl.1 rfl (lv_room (Nat.le_of_ble_eq_true rfl)) dX1_button_95 ⟨Nat.zero_le _, Nat.zero_le _⟩) hS (fun q _ h9 => hFc q h9) hFc (fun u54 t H53 locs ht hvm hw hB hz1 hk1 hS => ?_)
            obtain ⟨hP, hK, hD⟩ := af_W hB ht hvm hFc
            clear hFc hB
            obtain ⟨eu54, hIu54⟩ := hw
            refine lv_aload_n hx hb dX1_button_98 rfl (lv_at hl 0 rfl) ?_
            refine lv_aload_n hx hb dX1_button_99 rfl (lv_at hl 0 rfl) ?_
            refine va_get (D := D) (ci := 1) (v := .int (mw u54)) (C := RX1) (T := TX1) (N := 15) hx hb hts hin hown hK hP 0 rfl rfl 6 (by decide) (hts (.fieldLink RX1 59 "ModeDeskModel" "warning" "Z") (by decide +kernel)) (fun _ h9 => h9) rfl dX1_button_100 ?_
            refine lv_if_ne (tgt := 113) hx hb dX1_button_103 (by decide) (fun c55 => ?_) (fun c55 => ?_)
            · refine lv_iconst (v := 1) hx hb dX1_button_113 (by decide) ?_
              refine lv_goto (tgt := 118) hx hb dX1_button_114 (by decide) ?_
              refine va_put (D := D) (ci := 1) (v := .int 1) (ty := .boolean) (C := RX1) (T := TX1) (N := 15) hx hb hts hin tyX1 tyX1_ok nmX1 hown hK hP hD hS 0 rfl rfl 6 (by decide) (hts (.fieldLink RX1 59 "ModeDeskModel" "warning" "Z") (by decide +kernel)) (fun _ h9 => h9) rfl (by decide +kernel) (bz_n bz1) (bz_f bz1) (Nat.le_of_ble_eq_true rfl) dX1_button_118 (fun H57 locs hP hD hS => ?_)
              obtain ⟨u56, eu56⟩ : ∃ y : MS, y = mw_ u54 1 := ⟨_, rfl⟩
              have hP : va_P D vwCl (wM cI cZ h u56) H57 := by rw [eu56]; exact hP
              have hD : va_D A (wM cI cZ h u56) := by rw [eu56]; exact hD
              have hIu56 : InvM n u56 := by rw [eu56]; exact InvM.sw hIu54 bz1
              refine lv_aload_n hx hb dX1_button_121 rfl (lv_at hl 0 rfl) ?_
              refine lv_iconst (v := 0) hx hb dX1_button_122 (by decide) ?_
              refine va_put (D := D) (ci := 1) (v := .int 0) (ty := .boolean) (C := RX1) (T := TX1) (N := 15) hx hb hts hin tyX1 tyX1_ok nmX1 hown hK hP hD hS 0 rfl rfl 5 (by decide) (hts (.fieldLink RX1 62 "ModeDeskModel" "engaged" "Z") (by decide +kernel)) (fun _ h9 => h9) rfl (by decide +kernel) (bz_n bz0) (bz_f bz0) (Nat.le_of_ble_eq_true rfl) dX1_button_123 (fun H59 locs hP hD hS => ?_)
              obtain ⟨u58, eu58⟩ : ∃ y : MS, y = me_ u56 0 := ⟨_, rfl⟩
              have hP : va_P D vwCl (wM cI cZ h u58) H59 := by rw [eu58]; exact hP
              have hD : va_D A (wM cI cZ h u58) := by rw [eu58]; exact hD
              have hIu58 : InvM n u58 := by rw [eu58]; exact InvM.se hIu56 bz0
              refine lv_aload_n hx hb dX1_button_126 rfl (lv_at hl 0 rfl) ?_
              refine lv_iconst (v := 5) hx hb dX1_button_127 (by decide) ?_
              refine lv_iconst (v := 0) hx hb dX1_button_128 (by decide) ?_
              have hFc := va_free (wc := wM cI cZ h u58) hD hS hA [0, 1, 2] rfl
              refine va_callv (va_runV (As := [.int 5, .int 0]) (rest := []) ⟨hx, hb, hml, hown, hts⟩ (kX1_lateralTo l D cI cZ h H59.size u58 5 0 n hIu58 (by omega)) (cwV 2 hts gX1_button_X1_lateralTo rfl rfl rfl (by decide +kernel) ⟨Nat.le_of_ble_eq_true rfl, Nat.le_of_ble_eq_true rfl⟩) ⟨bl_W, va_recv hK hP (ci := 1) (q0 := 0) rfl rfl, pr_W hP hK hD⟩ rfl rfl hl.1 rfl (lv_room (Nat.le_of_ble_eq_true rfl)) dX1_button_129 ⟨Nat.zero_le _, Nat.zero_le _⟩) hS (fun q _ h9 => hFc q h9) hFc (fun u62 t H61 locs ht hvm hw hB hz1 hk1 hS => ?_)
              obtain ⟨hP, hK, hD⟩ := af_W hB ht hvm hFc
              clear hFc hB
              obtain ⟨eu62, hIu62⟩ := hw
              refine lv_aload_n hx hb dX1_button_132 rfl (lv_at hl 0 rfl) ?_
              refine lv_bipush (v := 7) hx hb dX1_button_133 (by decide) ?_
              refine lv_iconst (v := 0) hx hb dX1_button_135 (by decide) ?_
              have hFc := va_free (wc := wM cI cZ h u62) hD hS hA [0, 1, 2] rfl
              refine va_callv (va_runV (As := [.int 7, .int 0]) (rest := []) ⟨hx, hb, hml, hown, hts⟩ (kX1_verticalTo l D cI cZ h H61.size u62 7 0 (n + 1) hIu62 (by omega)) (cwV 2 hts gX1_button_X1_verticalTo rfl rfl rfl (by decide +kernel) ⟨Nat.le_of_ble_eq_true rfl, Nat.le_of_ble_eq_true rfl⟩) ⟨bl_W, va_recv hK hP (ci := 1) (q0 := 0) rfl rfl, pr_W hP hK hD⟩ rfl rfl hl.1 rfl (lv_room (Nat.le_of_ble_eq_true rfl)) dX1_button_136 ⟨Nat.zero_le _, Nat.zero_le _⟩) hS (fun q _ h9 => hFc q h9) hFc (fun u65 t H64 locs ht hvm hw hB hz1 hk1 hS => ?_)
              obtain ⟨hP, hK, hD⟩ := af_W hB ht hvm hFc
              clear hFc hB
              obtain ⟨eu65, hIu65⟩ := hw
              have hIu65 : InvM (n + 2) u65 := hIu65.mono (by omega)
              refine lv_goto (tgt := 279) hx hb dX1_button_139 (by decide) ?_
              have hq1 : pX1_button u a1 = u65 := (by subst eu65; subst eu62; subst eu58; subst eu56; subst eu54; unfold pX1_button; first | (rw [if_neg c1, if_neg c2, if_neg c3, if_pos c4, if_pos c5, if_neg c55]; done) | (rw [if_neg c1, if_neg c2, if_neg c3, if_pos c4, if_pos c5, if_neg c55]; rfl))
              exact W.vret hx hb hr (fun t ht hW => ⟨⟨u65, rfl, ⟨hq1.symm, hIu65⟩, by rw [ht]; exact hP, va_K.moved hW.alike hK, hD⟩, hS.F ht⟩) hS.2.2 dX1_button_279
            · refine lv_aload_n hx hb dX1_button_106 rfl (lv_at hl 0 rfl) ?_
              refine va_get (D := D) (ci := 1) (v := .int (me u54)) (C := RX1) (T := TX1) (N := 15) hx hb hts hin hown hK hP 0 rfl rfl 5 (by decide) (hts (.fieldLink RX1 62 "ModeDeskModel" "engaged" "Z") (by decide +kernel)) (fun _ h9 => h9) rfl dX1_button_107 ?_
              refine lv_if_eq (tgt := 117) hx hb dX1_button_110 (by decide) (fun c66 => ?_) (fun c66 => ?_)
              · refine lv_iconst (v := 0) hx hb dX1_button_117 (by decide) ?_
                refine va_put (D := D) (ci := 1) (v := .int 0) (ty := .boolean) (C := RX1) (T := TX1) (N := 15) hx hb hts hin tyX1 tyX1_ok nmX1 hown hK hP hD hS 0 rfl rfl 6 (by decide) (hts (.fieldLink RX1 59 "ModeDeskModel" "warning" "Z") (by decide +kernel)) (fun _ h9 => h9) rfl (by decide +kernel) (bz_n bz0) (bz_f bz0) (Nat.le_of_ble_eq_true rfl) dX1_button_118 (fun H68 locs hP hD hS => ?_)
                obtain ⟨u67, eu67⟩ : ∃ y : MS, y = mw_ u54 0 := ⟨_, rfl⟩
                have hP : va_P D vwCl (wM cI cZ h u67) H68 := by rw [eu67]; exact hP
                have hD : va_D A (wM cI cZ h u67) := by rw [eu67]; exact hD
                have hIu67 : InvM n u67 := by rw [eu67]; exact InvM.sw hIu54 bz0
                refine lv_aload_n hx hb dX1_button_121 rfl (lv_at hl 0 rfl) ?_
                refine lv_iconst (v := 0) hx hb dX1_button_122 (by decide) ?_
                refine va_put (D := D) (ci := 1) (v := .int 0) (ty := .boolean) (C := RX1) (T := TX1) (N := 15) hx hb hts hin tyX1 tyX1_ok nmX1 hown hK hP hD hS 0 rfl rfl 5 (by decide) (hts (.fieldLink RX1 62 "ModeDeskModel" "engaged" "Z") (by decide +kernel)) (fun _ h9 => h9) rfl (by decide +kernel) (bz_n bz0) (bz_f bz0) (Nat.le_of_ble_eq_true rfl) dX1_button_123 (fun H70 locs hP hD hS => ?_)
                obtain ⟨u69, eu69⟩ : ∃ y : MS, y = me_ u67 0 := ⟨_, rfl⟩
                have hP : va_P D vwCl (wM cI cZ h u69) H70 := by rw [eu69]; exact hP
                have hD : va_D A (wM cI cZ h u69) := by rw [eu69]; exact hD
                have hIu69 : InvM n u69 := by rw [eu69]; exact InvM.se hIu67 bz0
                refine lv_aload_n hx hb dX1_button_126 rfl (lv_at hl 0 rfl) ?_
                refine lv_iconst (v := 5) hx hb dX1_button_127 (by decide) ?_
                refine lv_iconst (v := 0) hx hb dX1_button_128 (by decide) ?_
                have hFc := va_free (wc := wM cI cZ h u69) hD hS hA [0, 1, 2] rfl
                refine va_callv (va_runV (As := [.int 5, .int 0]) (rest := []) ⟨hx, hb, hml, hown, hts⟩ (kX1_lateralTo l D cI cZ h H70.size u69 5 0 n hIu69 (by omega)) (cwV 2 hts gX1_button_X1_lateralTo rfl rfl rfl (by decide +kernel) ⟨Nat.le_of_ble_eq_true rfl, Nat.le_of_ble_eq_true rfl⟩) ⟨bl_W, va_recv hK hP (ci := 1) (q0 := 0) rfl rfl, pr_W hP hK hD⟩ rfl rfl hl.1 rfl (lv_room (Nat.le_of_ble_eq_true rfl)) dX1_button_129 ⟨Nat.zero_le _, Nat.zero_le _⟩) hS (fun q _ h9 => hFc q h9) hFc (fun u73 t H72 locs ht hvm hw hB hz1 hk1 hS => ?_)
                obtain ⟨hP, hK, hD⟩ := af_W hB ht hvm hFc
                clear hFc hB
                obtain ⟨eu73, hIu73⟩ := hw
                refine lv_aload_n hx hb dX1_button_132 rfl (lv_at hl 0 rfl) ?_
                refine lv_bipush (v := 7) hx hb dX1_button_133 (by decide) ?_
                refine lv_iconst (v := 0) hx hb dX1_button_135 (by decide) ?_
                have hFc := va_free (wc := wM cI cZ h u73) hD hS hA [0, 1, 2] rfl
                refine va_callv (va_runV (As := [.int 7, .int 0]) (rest := []) ⟨hx, hb, hml, hown, hts⟩ (kX1_verticalTo l D cI cZ h H72.size u73 7 0 (n + 1) hIu73 (by omega)) (cwV 2 hts gX1_button_X1_verticalTo rfl rfl rfl (by decide +kernel) ⟨Nat.le_of_ble_eq_true rfl, Nat.le_of_ble_eq_true rfl⟩) ⟨bl_W, va_recv hK hP (ci := 1) (q0 := 0) rfl rfl, pr_W hP hK hD⟩ rfl rfl hl.1 rfl (lv_room (Nat.le_of_ble_eq_true rfl)) dX1_button_136 ⟨Nat.zero_le _, Nat.zero_le _⟩) hS (fun q _ h9 => hFc q h9) hFc (fun u76 t H75 locs ht hvm hw hB hz1 hk1 hS => ?_)
                obtain ⟨hP, hK, hD⟩ := af_W hB ht hvm hFc
                clear hFc hB
                obtain ⟨eu76, hIu76⟩ := hw
                have hIu76 : InvM (n + 2) u76 := hIu76.mono (by omega)
                refine lv_goto (tgt := 279) hx hb dX1_button_139 (by decide) ?_
                have hq1 : pX1_button u a1 = u76 := (by subst eu76; subst eu73; subst eu69; subst eu67; subst eu54; unfold pX1_button; first | (rw [if_neg c1, if_neg c2, if_neg c3, if_pos c4, if_pos c5, if_pos c55, if_pos c66]; done) | (rw [if_neg c1, if_neg c2, if_neg c3, if_pos c4, if_pos c5, if_pos c55, if_pos c66]; rfl))
                exact W.vret hx hb hr (fun t ht hW => ⟨⟨u76, rfl, ⟨hq1.symm, hIu76⟩, by rw [ht]; exact hP, va_K.moved hW.alike hK, hD⟩, hS.F ht⟩) hS.2.2 dX1_button_279
              · refine lv_iconst (v := 1) hx hb dX1_button_113 (by decide) ?_
                refine lv_goto (tgt := 118) hx hb dX1_button_114 (by decide) ?_
                refine va_put (D := D) (ci := 1) (v := .int 1) (ty := .boolean) (C := RX1) (T := TX1) (N := 15) hx hb hts hin tyX1 tyX1_ok nmX1 hown hK hP hD hS 0 rfl rfl 6 (by decide) (hts (.fieldLink RX1 59 "ModeDeskModel" "warning" "Z") (by decide +kernel)) (fun _ h9 => h9) rfl (by decide +kernel) (bz_n bz1) (bz_f bz1) (Nat.le_of_ble_eq_true rfl) dX1_button_118 (fun H78 locs hP hD hS => ?_)
                obtain ⟨u77, eu77⟩ : ∃ y : MS, y = mw_ u54 1 := ⟨_, rfl⟩
                have hP : va_P D vwCl (wM cI cZ h u77) H78 := by rw [eu77]; exact hP
                have hD : va_D A (wM cI cZ h u77) := by rw [eu77]; exact hD
                have hIu77 : InvM n u77 := by rw [eu77]; exact InvM.sw hIu54 bz1
                refine lv_aload_n hx hb dX1_button_121 rfl (lv_at hl 0 rfl) ?_
                refine lv_iconst (v := 0) hx hb dX1_button_122 (by decide) ?_
                refine va_put (D := D) (ci := 1) (v := .int 0) (ty := .boolean) (C := RX1) (T := TX1) (N := 15) hx hb hts hin tyX1 tyX1_ok nmX1 hown hK hP hD hS 0 rfl rfl 5 (by decide) (hts (.fieldLink RX1 62 "ModeDeskModel" "engaged" "Z") (by decide +kernel)) (fun _ h9 => h9) rfl (by decide +kernel) (bz_n bz0) (bz_f bz0) (Nat.le_of_ble_eq_true rfl) dX1_button_123 (fun H80 locs hP hD hS => ?_)
                obtain ⟨u79, eu79⟩ : ∃ y : MS, y = me_ u77 0 := ⟨_, rfl⟩
                have hP : va_P D vwCl (wM cI cZ h u79) H80 := by rw [eu79]; exact hP
                have hD : va_D A (wM cI cZ h u79) := by rw [eu79]; exact hD
                have hIu79 : InvM n u79 := by rw [eu79]; exact InvM.se hIu77 bz0
                refine lv_aload_n hx hb dX1_button_126 rfl (lv_at hl 0 rfl) ?_
                refine lv_iconst (v := 5) hx hb dX1_button_127 (by decide) ?_
                refine lv_iconst (v := 0) hx hb dX1_button_128 (by decide) ?_
                have hFc := va_free (wc := wM cI cZ h u79) hD hS hA [0, 1, 2] rfl
                refine va_callv (va_runV (As := [.int 5, .int 0]) (rest := []) ⟨hx, hb, hml, hown, hts⟩ (kX1_lateralTo l D cI cZ h H80.size u79 5 0 n hIu79 (by omega)) (cwV 2 hts gX1_button_X1_lateralTo rfl rfl rfl (by decide +kernel) ⟨Nat.le_of_ble_eq_true rfl, Nat.le_of_ble_eq_true rfl⟩) ⟨bl_W, va_recv hK hP (ci := 1) (q0 := 0) rfl rfl, pr_W hP hK hD⟩ rfl rfl hl.1 rfl (lv_room (Nat.le_of_ble_eq_true rfl)) dX1_button_129 ⟨Nat.zero_le _, Nat.zero_le _⟩) hS (fun q _ h9 => hFc q h9) hFc (fun u83 t H82 locs ht hvm hw hB hz1 hk1 hS => ?_)
                obtain ⟨hP, hK, hD⟩ := af_W hB ht hvm hFc
                clear hFc hB
                obtain ⟨eu83, hIu83⟩ := hw
                refine lv_aload_n hx hb dX1_button_132 rfl (lv_at hl 0 rfl) ?_
                refine lv_bipush (v := 7) hx hb dX1_button_133 (by decide) ?_
                refine lv_iconst (v := 0) hx hb dX1_button_135 (by decide) ?_
                have hFc := va_free (wc := wM cI cZ h u83) hD hS hA [0, 1, 2] rfl
                refine va_callv (va_runV (As := [.int 7, .int 0]) (rest := []) ⟨hx, hb, hml, hown, hts⟩ (kX1_verticalTo l D cI cZ h H82.size u83 7 0 (n + 1) hIu83 (by omega)) (cwV 2 hts gX1_button_X1_verticalTo rfl rfl rfl (by decide +kernel) ⟨Nat.le_of_ble_eq_true rfl, Nat.le_of_ble_eq_true rfl⟩) ⟨bl_W, va_recv hK hP (ci := 1) (q0 := 0) rfl rfl, pr_W hP hK hD⟩ rfl rfl hl.1 rfl (lv_room (Nat.le_of_ble_eq_true rfl)) dX1_button_136 ⟨Nat.zero_le _, Nat.zero_le _⟩) hS (fun q _ h9 => hFc q h9) hFc (fun u86 t H85 locs ht hvm hw hB hz1 hk1 hS => ?_)
                obtain ⟨hP, hK, hD⟩ := af_W hB ht hvm hFc
                clear hFc hB
                obtain ⟨eu86, hIu86⟩ := hw
                have hIu86 : InvM (n + 2) u86 := hIu86.mono (by omega)
                refine lv_goto (tgt := 279) hx hb dX1_button_139 (by decide) ?_
                have hq1 : pX1_button u a1 = u86 := (by subst eu86; subst eu83; subst eu79; subst eu77; subst eu54; unfold pX1_button; first | (rw [if_neg c1, if_neg c2, if_neg c3, if_pos c4, if_pos c5, if_pos c55, if_neg c66]; done) | (rw [if_neg c1, if_neg c2, if_neg c3, if_pos c4, if_pos c5, if_pos c55, if_neg c66]; rfl))
                exact W.vret hx hb hr (fun t ht hW => ⟨⟨u86, rfl, ⟨hq1.symm, hIu86⟩, by rw [ht]; exact hP, va_K.moved hW.alike hK, hD⟩, hS.F ht⟩) hS.2.2 dX1_button_279
        · refine lv_aload_n hx hb dX1_button_54 rfl (lv_at hl 0 rfl) ?_
          refine va_get (D := D) (ci := 1) (v := .int (mv u)) (C := RX1) (T := TX1) (N := 15) hx hb hts hin hown hK hP 0 rfl rfl 2 (by decide) (hts (.fieldLink RX1 36 "ModeDeskModel" "vertical" "I") (by decide +kernel)) (fun _ h9 => h9) rfl dX1_button_55 ?_
          refine lv_bipush (v := 6) hx hb dX1_button_58 (by decide) ?_
          refine lv_icmp_eq (tgt := 279) hx hb dX1_button_60 (by decide) (fun c87 => ?_) (fun c87 => ?_)
          · have hq1 : pX1_button u a1 = u := (by unfold pX1_button; first | (rw [if_neg c1, if_neg c2, if_neg c3, if_neg c4, if_pos c87]; done) | (rw [if_neg c1, if_neg c2, if_neg c3, if_neg c4, if_pos c87]; rfl))
            exact W.vret hx hb hr (fun t ht hW => ⟨⟨u, rfl, ⟨hq1.symm, (hI.mono (by omega))⟩, by rw [ht]; exact hP, va_K.moved hW.alike hK, hD⟩, hS.F ht⟩) hS.2.2 dX1_button_279
          · refine lv_aload_n hx hb dX1_button_63 rfl (lv_at hl 0 rfl) ?_
            refine lv_aload_n hx hb dX1_button_64 rfl (lv_at hl 0 rfl) ?_
            refine va_get (D := D) (ci := 1) (v := .int (mv u)) (C := RX1) (T := TX1) (N := 15) hx hb hts hin hown hK hP 0 rfl rfl 2 (by decide) (hts (.fieldLink RX1 36 "ModeDeskModel" "vertical" "I") (by decide +kernel)) (fun _ h9 => h9) rfl dX1_button_65 ?_
            refine lv_iload_n hx hb dX1_button_68 rfl (lv_at hl 1 rfl) ?_
            refine lv_iconst (v := 1) hx hb dX1_button_69 (by decide) ?_
            refine lv_isub hx hb dX1_button_70 ?_
            refine lv_icmp_ne (tgt := 78) hx hb dX1_button_71 (by decide) (fun c88 => ?_) (fun c88 => ?_)
            · refine lv_iload_n hx hb dX1_button_78 rfl (lv_at hl 1 rfl) ?_
              refine lv_iconst (v := 1) hx hb dX1_button_79 (by decide) ?_
              refine lv_isub hx hb dX1_button_80 ?_
              refine lv_iconst (v := 0) hx hb dX1_button_81 (by decide) ?_
              have hFc := va_free (wc := wM cI cZ h u) hD hS hA [0, 1, 2] rfl
              refine va_callv (va_runV (As := [.int (a1 - 1), .int 0]) (rest := []) ⟨hx, hb, hml, hown, hts⟩ (kX1_verticalTo l D cI cZ h s.heap.size u (a1 - 1) 0 n hI (by omega)) (cwV 2 hts gX1_button_X1_verticalTo rfl rfl rfl (by decide +kernel) ⟨Nat.le_of_ble_eq_true rfl, Nat.le_of_ble_eq_true rfl⟩) ⟨bl_W, va_recv hK hP (ci := 1) (q0 := 0) rfl rfl, pr_W hP hK hD⟩ rfl rfl hl.1 rfl (lv_room (Nat.le_of_ble_eq_true rfl)) dX1_button_82 ⟨Nat.zero_le _, Nat.zero_le _⟩) hS (fun q _ h9 => hFc q h9) hFc (fun u91 t H90 locs ht hvm hw hB hz1 hk1 hS => ?_)
              obtain ⟨hP, hK, hD⟩ := af_W hB ht hvm hFc
              clear hFc hB
              obtain ⟨eu91, hIu91⟩ := hw
              refine lv_goto (tgt := 279) hx hb dX1_button_85 (by decide) ?_
              have hq1 : pX1_button u a1 = u91 := (by subst eu91; unfold pX1_button; first | (rw [if_neg c1, if_neg c2, if_neg c3, if_neg c4, if_neg c87, if_neg c88]; done) | (rw [if_neg c1, if_neg c2, if_neg c3, if_neg c4, if_neg c87, if_neg c88]; rfl))
              exact W.vret hx hb hr (fun t ht hW => ⟨⟨u91, rfl, ⟨hq1.symm, (hIu91.mono (by omega))⟩, by rw [ht]; exact hP, va_K.moved hW.alike hK, hD⟩, hS.F ht⟩) hS.2.2 dX1_button_279
            · refine lv_iconst (v := 1) hx hb dX1_button_74 (by decide) ?_
              refine lv_goto (tgt := 81) hx hb dX1_button_75 (by decide) ?_
              refine lv_iconst (v := 0) hx hb dX1_button_81 (by decide) ?_
              have hFc := va_free (wc := wM cI cZ h u) hD hS hA [0, 1, 2] rfl
              refine va_callv (va_runV (As := [.int 1, .int 0]) (rest := []) ⟨hx, hb, hml, hown, hts⟩ (kX1_verticalTo l D cI cZ h s.heap.size u 1 0 n hI (by omega)) (cwV 2 hts gX1_button_X1_verticalTo rfl rfl rfl (by decide +kernel) ⟨Nat.le_of_ble_eq_true rfl, Nat.le_of_ble_eq_true rfl⟩) ⟨bl_W, va_recv hK hP (ci := 1) (q0 := 0) rfl rfl, pr_W hP hK hD⟩ rfl rfl hl.1 rfl (lv_room (Nat.le_of_ble_eq_true rfl)) dX1_button_82 ⟨Nat.zero_le _, Nat.zero_le _⟩) hS (fun q _ h9 => hFc q h9) hFc (fun u94 t H93 locs ht hvm hw hB hz1 hk1 hS => ?_)
              obtain ⟨hP, hK, hD⟩ := af_W hB ht hvm hFc
              clear hFc hB
              obtain ⟨eu94, hIu94⟩ := hw
              refine lv_goto (tgt := 279) hx hb dX1_button_85 (by decide) ?_
              have hq1 : pX1_button u a1 = u94 := (by subst eu94; unfold pX1_button; first | (rw [if_neg c1, if_neg c2, if_neg c3, if_neg c4, if_neg c87, if_pos c88]; done) | (rw [if_neg c1, if_neg c2, if_neg c3, if_neg c4, if_neg c87, if_pos c88]; rfl))
              exact W.vret hx hb hr (fun t ht hW => ⟨⟨u94, rfl, ⟨hq1.symm, (hIu94.mono (by omega))⟩, by rw [ht]; exact hP, va_K.moved hW.alike hK, hD⟩, hS.F ht⟩) hS.2.2 dX1_button_279
      · refine lv_aload_n hx hb dX1_button_41 rfl (lv_at hl 0 rfl) ?_
        have hFc := va_free (wc := wM cI cZ h u) hD hS hA [0, 1, 2] rfl
        refine va_callv (va_runV (As := []) (rest := []) ⟨hx, hb, hml, hown, hts⟩ (kX1_approachButton l D cI cZ h s.heap.size u  n hI (by omega)) (cwV 0 hts gX1_button_X1_approachButton rfl rfl rfl (by decide +kernel) ⟨Nat.le_of_ble_eq_true rfl, Nat.le_of_ble_eq_true rfl⟩) ⟨bl_W, va_recv hK hP (ci := 1) (q0 := 0) rfl rfl, pr_W hP hK hD⟩ rfl rfl hl.1 rfl (lv_room (Nat.le_of_ble_eq_true rfl)) dX1_button_42 ⟨Nat.zero_le _, Nat.zero_le _⟩) hS (fun q _ h9 => hFc q h9) hFc (fun u97 t H96 locs ht hvm hw hB hz1 hk1 hS => ?_)
        obtain ⟨hP, hK, hD⟩ := af_W hB ht hvm hFc
        clear hFc hB
        obtain ⟨eu97, hIu97⟩ := hw
        refine lv_goto (tgt := 279) hx hb dX1_button_45 (by decide) ?_
        have hq1 : pX1_button u a1 = u97 := (by subst eu97; unfold pX1_button; first | (rw [if_neg c1, if_neg c2, if_pos c3]; done) | (rw [if_neg c1, if_neg c2, if_pos c3]; rfl))
        exact W.vret hx hb hr (fun t ht hW => ⟨⟨u97, rfl, ⟨hq1.symm, hIu97⟩, by rw [ht]; exact hP, va_K.moved hW.alike hK, hD⟩, hS.F ht⟩) hS.2.2 dX1_button_279
    · refine lv_aload_n hx hb dX1_button_29 rfl (lv_at hl 0 rfl) ?_
      have hFc := va_free (wc := wM cI cZ h u) hD hS hA [0, 1, 2] rfl
      refine va_callv (va_runV (As := []) (rest := []) ⟨hx, hb, hml, hown, hts⟩ (kX1_navButton l D cI cZ h s.heap.size u  n hI (by omega)) (cwV 0 hts gX1_button_X1_navButton rfl rfl rfl (by decide +kernel) ⟨Nat.le_of_ble_eq_true rfl, Nat.le_of_ble_eq_true rfl⟩) ⟨bl_W, va_recv hK hP (ci := 1) (q0 := 0) rfl rfl, pr_W hP hK hD⟩ rfl rfl hl.1 rfl (lv_room (Nat.le_of_ble_eq_true rfl)) dX1_button_30 ⟨Nat.zero_le _, Nat.zero_le _⟩) hS (fun q _ h9 => hFc q h9) hFc (fun u100 t H99 locs ht hvm hw hB hz1 hk1 hS => ?_)
      obtain ⟨hP, hK, hD⟩ := af_W hB ht hvm hFc
      clear hFc hB
      obtain ⟨eu100, hIu100⟩ := hw
      refine lv_goto (tgt := 279) hx hb dX1_button_33 (by decide) ?_
      have hq1 : pX1_button u a1 = u100 := (by subst eu100; unfold pX1_button; first | (rw [if_neg c1, if_pos c2]; done) | (rw [if_neg c1, if_pos c2]; rfl))
      exact W.vret hx hb hr (fun t ht hW => ⟨⟨u100, rfl, ⟨hq1.symm, (hIu100.mono (by omega))⟩, by rw [ht]; exact hP, va_K.moved hW.alike hK, hD⟩, hS.F ht⟩) hS.2.2 dX1_button_279
  · refine lv_aload_n hx hb dX1_button_4 rfl (lv_at hl 0 rfl) ?_
    refine lv_aload_n hx hb dX1_button_5 rfl (lv_at hl 0 rfl) ?_
    refine va_get (D := D) (ci := 1) (v := .int (ml u)) (C := RX1) (T := TX1) (N := 15) hx hb hts hin hown hK hP 0 rfl rfl 1 (by decide) (hts (.fieldLink RX1 26 "ModeDeskModel" "lateral" "I") (by decide +kernel)) (fun _ h9 => h9) rfl dX1_button_6 ?_
    refine lv_iconst (v := 2) hx hb dX1_button_9 (by decide) ?_
    refine lv_icmp_ne (tgt := 17) hx hb dX1_button_10 (by decide) (fun c101 => ?_) (fun c101 => ?_)
    · refine lv_iconst (v := 2) hx hb dX1_button_17 (by decide) ?_
      have hFc := va_free (wc := wM cI cZ h u) hD hS hA [0, 1, 2] rfl
      refine va_callv (va_runV (As := [.int 2]) (rest := []) ⟨hx, hb, hml, hown, hts⟩ (kX1_outOfApproach l D cI cZ h s.heap.size u 2 n hI (by omega)) (cwV 1 hts gX1_button_X1_outOfApproach rfl rfl rfl (by decide +kernel) ⟨Nat.le_of_ble_eq_true rfl, Nat.le_of_ble_eq_true rfl⟩) ⟨bl_W, va_recv hK hP (ci := 1) (q0 := 0) rfl rfl, pr_W hP hK hD⟩ rfl rfl hl.1 rfl (lv_room (Nat.le_of_ble_eq_true rfl)) dX1_button_18 ⟨Nat.zero_le _, Nat.zero_le _⟩) hS (fun q _ h9 => hFc q h9) hFc (fun u104 t H103 locs ht hvm hw hB hz1 hk1 hS => ?_)
      obtain ⟨hP, hK, hD⟩ := af_W hB ht hvm hFc
      clear hFc hB
      obtain ⟨eu104, hIu104⟩ := hw
      refine lv_goto (tgt := 279) hx hb dX1_button_21 (by decide) ?_
      have hq1 : pX1_button u a1 = u104 := (by subst eu104; unfold pX1_button; first | (rw [if_pos c1, if_neg c101]; done) | (rw [if_pos c1, if_neg c101]; rfl))
      exact W.vret hx hb hr (fun t ht hW => ⟨⟨u104, rfl, ⟨hq1.symm, hIu104⟩, by rw [ht]; exact hP, va_K.moved hW.alike hK, hD⟩, hS.F ht⟩) hS.2.2 dX1_button_279
    · refine lv_iconst (v := 1) hx hb dX1_button_13 (by decide) ?_
      refine lv_goto (tgt := 18) hx hb dX1_button_14 (by decide) ?_
      have hFc := va_free (wc := wM cI cZ h u) hD hS hA [0, 1, 2] rfl
      refine va_callv (va_runV (As := [.int 1]) (rest := []) ⟨hx, hb, hml, hown, hts⟩ (kX1_outOfApproach l D cI cZ h s.heap.size u 1 n hI (by omega)) (cwV 1 hts gX1_button_X1_outOfApproach rfl rfl rfl (by decide +kernel) ⟨Nat.le_of_ble_eq_true rfl, Nat.le_of_ble_eq_true rfl⟩) ⟨bl_W, va_recv hK hP (ci := 1) (q0 := 0) rfl rfl, pr_W hP hK hD⟩ rfl rfl hl.1 rfl (lv_room (Nat.le_of_ble_eq_true rfl)) dX1_button_18 ⟨Nat.zero_le _, Nat.zero_le _⟩) hS (fun q _ h9 => hFc q h9) hFc (fun u107 t H106 locs ht hvm hw hB hz1 hk1 hS => ?_)
      obtain ⟨hP, hK, hD⟩ := af_W hB ht hvm hFc
      clear hFc hB
      obtain ⟨eu107, hIu107⟩ := hw
      refine lv_goto (tgt := 279) hx hb dX1_button_21 (by decide) ?_
      have hq1 : pX1_button u a1 = u107 := (by subst eu107; unfold pX1_button; first | (rw [if_pos c1, if_pos c101]; done) | (rw [if_pos c1, if_pos c101]; rfl))
      exact W.vret hx hb hr (fun t ht hW => ⟨⟨u107, rfl, ⟨hq1.symm, hIu107⟩, by rw [ht]; exact hP, va_K.moved hW.alike hK, hD⟩, hS.F ht⟩) hS.2.2 dX1_button_279
def pX1_sum (u : MS) : Int32 := if (mg u) = 0 then (if (me u) = 0 then (((((((ml u) + (8 * (mv u))) + (64 * (ma u))) + 0) + 0) + (1024 * (mr u)))) else (((((((ml u) + (8 * (mv u))) + (64 * (ma u))) + 0) + 512) + (1024 * (mr u))))) else (if (me u) = 0 then (((((((ml u) + (8 * (mv u))) + (64 * (ma u))) + 256) + 0) + (1024 * (mr u)))) else (((((((ml u) + (8 * (mv u))) + (64 * (ma u))) + 256) + 512) + (1024 * (mr u)))))
set_option maxHeartbeats 4000000 in
set_option maxRecDepth 100000 in
theorem kX1_sum (l : Launch) (D : va_G) (cI cZ : ClassId) (h : Nat → Nat) (sz : Nat) (u : MS) (n : Nat) (hI : InvM n u) (hn : n ≤ 2000000) : Mi l yX1_sum wsX1_sum { frames := 0, cells := 0, slots := 0, locals := 0 } D (tyl cI cZ) (wM cI cZ h) sz u [.ref (h 0)] (fun r u9 => r = pX1_sum u ∧ u9 = u) := by
  refine Met.ofW (cc := cX1_sum) (maxL := 1) (ret := (some .int)) (by decide) rfl ?_
  intro p e s m args below meth c s₁ B hml hv
  obtain ⟨rfl, hsz, hP, hK, hD0⟩ := hv
  have hx := B.exec
  have hb := B.bytes
  have hr := B.returns
  have hts := atoms_spec (ws := wsX1_sum) B.pre
  have hin : ∀ w ∈ wsX10, w ∈ wsX1_sum := fun w h9 => List.mem_cons_of_mem _ (List.mem_append_right _ h9)
  have hown : s.vm.findClass RX1 = some m.cls := findClass_of_methodNamed B.named
  have hlocks := B.notSynchronized
  subst hsz
  have hD : va_D (va_A (wM cI cZ h u) s.heap.size) (wM cI cZ h u) := hD0.self (sz := s.heap.size)
  have hA : ∀ q : Nat, s.heap.size ≤ q → va_A (wM cI cZ h u) s.heap.size q := fun q h9 => Or.inr h9
  have hS : va_S (va_A (wM cI cZ h u) s.heap.size) s.heap s.heap [] := va_S.rf
  have hl := lv_entry ([.ref (h 0)]) (n := 1) (Nat.le_of_ble_eq_true rfl)
  rw [lg_entry_eq]
  generalize (lg_sl ([.ref (h 0)]) ++ List.replicate (1 - (lg_sl ([.ref (h 0)])).length) Slot.unset).toArray = ls at hl ⊢
  have hl : lv_has ls 1 [(0, .ref (h 0))] := hl
  generalize va_A (wM cI cZ h u) s.heap.size = A at hD hA hS ⊢
  refine lv_aload_n hx hb dX1_sum_0 rfl (lv_at hl 0 rfl) ?_
  refine va_get (D := D) (ci := 1) (v := .int (ml u)) (C := RX1) (T := TX1) (N := 15) hx hb hts hin hown hK hP 0 rfl rfl 1 (by decide) (hts (.fieldLink RX1 26 "ModeDeskModel" "lateral" "I") (by decide +kernel)) (fun _ h9 => h9) rfl dX1_sum_1 ?_
  refine lv_bipush (v := 8) hx hb dX1_sum_4 (by decide) ?_
  refine lv_aload_n hx hb dX1_sum_6 rfl (lv_at hl 0 rfl) ?_
  refine va_get (D := D) (ci := 1) (v := .int (mv u)) (C := RX1) (T := TX1) (N := 15) hx hb hts hin hown hK hP 0 rfl rfl 2 (by decide) (hts (.fieldLink RX1 36 "ModeDeskModel" "vertical" "I") (by decide +kernel)) (fun _ h9 => h9) rfl dX1_sum_7 ?_
  refine lv_imul hx hb dX1_sum_10 ?_
  refine lv_iadd hx hb dX1_sum_11 ?_
  refine lv_bipush (v := 64) hx hb dX1_sum_12 (by decide) ?_
  refine lv_aload_n hx hb dX1_sum_14 rfl (lv_at hl 0 rfl) ?_
  refine va_get (D := D) (ci := 1) (v := .int (ma u)) (C := RX1) (T := TX1) (N := 15) hx hb hts hin hown hK hP 0 rfl rfl 3 (by decide) (hts (.fieldLink RX1 42 "ModeDeskModel" "armedLateral" "I") (by decide +kernel)) (fun _ h9 => h9) rfl dX1_sum_15 ?_
  refine lv_imul hx hb dX1_sum_18 ?_
  refine lv_iadd hx hb dX1_sum_19 ?_
  refine lv_aload_n hx hb dX1_sum_20 rfl (lv_at hl 0 rfl) ?_
  refine va_get (D := D) (ci := 1) (v := .int (mg u)) (C := RX1) (T := TX1) (N := 15) hx hb hts hin hown hK hP 0 rfl rfl 4 (by decide) (hts (.fieldLink RX1 45 "ModeDeskModel" "armedGlide" "Z") (by decide +kernel)) (fun _ h9 => h9) rfl dX1_sum_21 ?_
  refine lv_if_eq (tgt := 33) hx hb dX1_sum_24 (by decide) (fun c1 => ?_) (fun c1 => ?_)
  · refine lv_iconst (v := 0) hx hb dX1_sum_33 (by decide) ?_
    refine lv_iadd hx hb dX1_sum_34 ?_
    refine lv_aload_n hx hb dX1_sum_35 rfl (lv_at hl 0 rfl) ?_
    refine va_get (D := D) (ci := 1) (v := .int (me u)) (C := RX1) (T := TX1) (N := 15) hx hb hts hin hown hK hP 0 rfl rfl 5 (by decide) (hts (.fieldLink RX1 62 "ModeDeskModel" "engaged" "Z") (by decide +kernel)) (fun _ h9 => h9) rfl dX1_sum_36 ?_
    refine lv_if_eq (tgt := 48) hx hb dX1_sum_39 (by decide) (fun c2 => ?_) (fun c2 => ?_)
    · refine lv_iconst (v := 0) hx hb dX1_sum_48 (by decide) ?_
      refine lv_iadd hx hb dX1_sum_49 ?_
      refine lv_sipush (v := 1024) hx hb dX1_sum_50 (by decide) ?_
      refine lv_aload_n hx hb dX1_sum_53 rfl (lv_at hl 0 rfl) ?_
      refine va_get (D := D) (ci := 1) (v := .int (mr u)) (C := RX1) (T := TX1) (N := 15) hx hb hts hin hown hK hP 0 rfl rfl 9 (by decide) (hts (.fieldLink RX1 16 "ModeDeskModel" "leader" "I") (by decide +kernel)) (fun _ h9 => h9) rfl dX1_sum_54 ?_
      refine lv_imul hx hb dX1_sum_57 ?_
      refine lv_iadd hx hb dX1_sum_58 ?_
      have hq1 : pX1_sum u = ((((((ml u) + (8 * (mv u))) + (64 * (ma u))) + 0) + 0) + (1024 * (mr u))) := (by unfold pX1_sum; first | (rw [if_pos c1, if_pos c2]; done) | (rw [if_pos c1, if_pos c2]; rfl))
      exact W.iret (v := ((((((ml u) + (8 * (mv u))) + (64 * (ma u))) + 0) + 0) + (1024 * (mr u)))) hx hb hr (fun t ht hW => ⟨⟨((((((ml u) + (8 * (mv u))) + (64 * (ma u))) + 0) + 0) + (1024 * (mr u))), u, rfl, ⟨hq1.symm, rfl⟩, by rw [ht]; exact hP, va_K.moved hW.alike hK, hD⟩, hS.F ht⟩) hS.2.2 dX1_sum_59
    · refine lv_sipush (v := 512) hx hb dX1_sum_42 (by decide) ?_
      refine lv_goto (tgt := 49) hx hb dX1_sum_45 (by decide) ?_
      refine lv_iadd hx hb dX1_sum_49 ?_
      refine lv_sipush (v := 1024) hx hb dX1_sum_50 (by decide) ?_
      refine lv_aload_n hx hb dX1_sum_53 rfl (lv_at hl 0 rfl) ?_
      refine va_get (D := D) (ci := 1) (v := .int (mr u)) (C := RX1) (T := TX1) (N := 15) hx hb hts hin hown hK hP 0 rfl rfl 9 (by decide) (hts (.fieldLink RX1 16 "ModeDeskModel" "leader" "I") (by decide +kernel)) (fun _ h9 => h9) rfl dX1_sum_54 ?_
      refine lv_imul hx hb dX1_sum_57 ?_
      refine lv_iadd hx hb dX1_sum_58 ?_
      have hq1 : pX1_sum u = ((((((ml u) + (8 * (mv u))) + (64 * (ma u))) + 0) + 512) + (1024 * (mr u))) := (by unfold pX1_sum; first | (rw [if_pos c1, if_neg c2]; done) | (rw [if_pos c1, if_neg c2]; rfl))
      exact W.iret (v := ((((((ml u) + (8 * (mv u))) + (64 * (ma u))) + 0) + 512) + (1024 * (mr u)))) hx hb hr (fun t ht hW => ⟨⟨((((((ml u) + (8 * (mv u))) + (64 * (ma u))) + 0) + 512) + (1024 * (mr u))), u, rfl, ⟨hq1.symm, rfl⟩, by rw [ht]; exact hP, va_K.moved hW.alike hK, hD⟩, hS.F ht⟩) hS.2.2 dX1_sum_59
  · refine lv_sipush (v := 256) hx hb dX1_sum_27 (by decide) ?_
    refine lv_goto (tgt := 34) hx hb dX1_sum_30 (by decide) ?_
    refine lv_iadd hx hb dX1_sum_34 ?_
    refine lv_aload_n hx hb dX1_sum_35 rfl (lv_at hl 0 rfl) ?_
    refine va_get (D := D) (ci := 1) (v := .int (me u)) (C := RX1) (T := TX1) (N := 15) hx hb hts hin hown hK hP 0 rfl rfl 5 (by decide) (hts (.fieldLink RX1 62 "ModeDeskModel" "engaged" "Z") (by decide +kernel)) (fun _ h9 => h9) rfl dX1_sum_36 ?_
    refine lv_if_eq (tgt := 48) hx hb dX1_sum_39 (by decide) (fun c3 => ?_) (fun c3 => ?_)
    · refine lv_iconst (v := 0) hx hb dX1_sum_48 (by decide) ?_
      refine lv_iadd hx hb dX1_sum_49 ?_
      refine lv_sipush (v := 1024) hx hb dX1_sum_50 (by decide) ?_
      refine lv_aload_n hx hb dX1_sum_53 rfl (lv_at hl 0 rfl) ?_
      refine va_get (D := D) (ci := 1) (v := .int (mr u)) (C := RX1) (T := TX1) (N := 15) hx hb hts hin hown hK hP 0 rfl rfl 9 (by decide) (hts (.fieldLink RX1 16 "ModeDeskModel" "leader" "I") (by decide +kernel)) (fun _ h9 => h9) rfl dX1_sum_54 ?_
      refine lv_imul hx hb dX1_sum_57 ?_
      refine lv_iadd hx hb dX1_sum_58 ?_
      have hq1 : pX1_sum u = ((((((ml u) + (8 * (mv u))) + (64 * (ma u))) + 256) + 0) + (1024 * (mr u))) := (by unfold pX1_sum; first | (rw [if_neg c1, if_pos c3]; done) | (rw [if_neg c1, if_pos c3]; rfl))
      exact W.iret (v := ((((((ml u) + (8 * (mv u))) + (64 * (ma u))) + 256) + 0) + (1024 * (mr u)))) hx hb hr (fun t ht hW => ⟨⟨((((((ml u) + (8 * (mv u))) + (64 * (ma u))) + 256) + 0) + (1024 * (mr u))), u, rfl, ⟨hq1.symm, rfl⟩, by rw [ht]; exact hP, va_K.moved hW.alike hK, hD⟩, hS.F ht⟩) hS.2.2 dX1_sum_59
    · refine lv_sipush (v := 512) hx hb dX1_sum_42 (by decide) ?_
      refine lv_goto (tgt := 49) hx hb dX1_sum_45 (by decide) ?_
      refine lv_iadd hx hb dX1_sum_49 ?_
      refine lv_sipush (v := 1024) hx hb dX1_sum_50 (by decide) ?_
      refine lv_aload_n hx hb dX1_sum_53 rfl (lv_at hl 0 rfl) ?_
      refine va_get (D := D) (ci := 1) (v := .int (mr u)) (C := RX1) (T := TX1) (N := 15) hx hb hts hin hown hK hP 0 rfl rfl 9 (by decide) (hts (.fieldLink RX1 16 "ModeDeskModel" "leader" "I") (by decide +kernel)) (fun _ h9 => h9) rfl dX1_sum_54 ?_
      refine lv_imul hx hb dX1_sum_57 ?_
      refine lv_iadd hx hb dX1_sum_58 ?_
      have hq1 : pX1_sum u = ((((((ml u) + (8 * (mv u))) + (64 * (ma u))) + 256) + 512) + (1024 * (mr u))) := (by unfold pX1_sum; first | (rw [if_neg c1, if_neg c3]; done) | (rw [if_neg c1, if_neg c3]; rfl))
      exact W.iret (v := ((((((ml u) + (8 * (mv u))) + (64 * (ma u))) + 256) + 512) + (1024 * (mr u)))) hx hb hr (fun t ht hW => ⟨⟨((((((ml u) + (8 * (mv u))) + (64 * (ma u))) + 256) + 512) + (1024 * (mr u))), u, rfl, ⟨hq1.symm, rfl⟩, by rw [ht]; exact hP, va_K.moved hW.alike hK, hD⟩, hS.F ht⟩) hS.2.2 dX1_sum_59
