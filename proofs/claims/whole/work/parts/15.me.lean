def pX1_press_96 (u : MS) (a1 : Int32) (j1 j2 : Int32) : Int32 × MS := if (pX1_sum ((pX1_settle u).2)) = j1 then ((0, (pX1_settle u).2)) else ((1, (pX1_settle u).2))
def pX1_press_87 (u : MS) (a1 : Int32) (j1 j2 : Int32) : Int32 × MS := if j2 = 0 then (pX1_press_96 u a1 j1 j2) else (pX1_press_96 (pX1_button u a1) a1 j1 j2)
def pX1_press_64 (u : MS) (a1 : Int32) (j1 j2 : Int32) : Int32 × MS := if j1 = 0 then (pX1_press_87 u a1 j2 j1) else (if 8 ≤ a1 then (pX1_press_87 u a1 j2 j1) else (if (ml u) = 0 then (pX1_press_87 (pX1_base u 0) a1 j2 j1) else (pX1_press_87 u a1 j2 j1)))
def pX1_press (u : MS) (a1 : Int32) : Int32 × MS := if a1 < 0 then ((0, (pX1_good u 0).2)) else (if 9 < a1 then ((0, (pX1_good u 0).2)) else (if 7 < a1 then (pX1_press_64 (mh_ (mf_ ((pX1_good u 1).2) 0) 0) a1 1 (pX1_sum ((pX1_good u 1).2))) else (if (mb (mh_ (mf_ ((pX1_good u 1).2) 0) 0)) = 0 then (pX1_press_64 (mh_ (mf_ ((pX1_good u 1).2) 0) 0) a1 1 (pX1_sum ((pX1_good u 1).2))) else (if (md (mh_ (mf_ ((pX1_good u 1).2) 0) 0)) = 0 then (pX1_press_64 (mh_ (mf_ ((pX1_good u 1).2) 0) 0) a1 1 (pX1_sum ((pX1_good u 1).2))) else (pX1_press_64 (mh_ (mf_ ((pX1_good u 1).2) 0) 0) a1 0 (pX1_sum ((pX1_good u 1).2)))))))
set_option maxHeartbeats 4000000 in
set_option maxRecDepth 100000 in
theorem kX1_press (l : Launch) (D : va_G) (cI cZ : ClassId) (h : Nat → Nat) (sz : Nat) (u : MS) (a1 : Int32) (n : Nat) (hI : InvM n u) (hn : n ≤ 1999000) : Mi l yX1_press wsX1_press { frames := 5, cells := 0, slots := 0, locals := 110 } D (tyl cI cZ) (wM cI cZ h) sz u [.ref (h 0), .int a1] (fun r u9 => (r, u9) = pX1_press u a1 ∧ InvM (n + 50) u9) := by
  refine Met.ofW (cc := cX1_press) (maxL := 5) (ret := (some .int)) (by decide) rfl ?_
  intro p e s m args below meth c s₁ B hml hv
  obtain ⟨rfl, hsz, hP, hK, hD0⟩ := hv
  have hx := B.exec
  have hb := B.bytes
  have hr := B.returns
  have hts := atoms_spec (ws := wsX1_press) B.pre
  have hin : ∀ w ∈ wsX10, w ∈ wsX1_press := fun w h9 => List.mem_cons_of_mem _ (List.mem_append_right _ h9)
  have hown : s.vm.findClass RX1 = some m.cls := findClass_of_methodNamed B.named
  have hlocks := B.notSynchronized
  subst hsz
  have hD : va_D (va_A (wM cI cZ h u) s.heap.size) (wM cI cZ h u) := hD0.self (sz := s.heap.size)
  have hA : ∀ q : Nat, s.heap.size ≤ q → va_A (wM cI cZ h u) s.heap.size q := fun q h9 => Or.inr h9
  have hS : va_S (va_A (wM cI cZ h u) s.heap.size) s.heap s.heap [] := va_S.rf
  have hl := lv_entry ([.ref (h 0), .int a1]) (n := 5) (Nat.le_of_ble_eq_true rfl)
  rw [lg_entry_eq]
  generalize (lg_sl ([.ref (h 0), .int a1]) ++ List.replicate (5 - (lg_sl ([.ref (h 0), .int a1])).length) Slot.unset).toArray = ls at hl ⊢
  have hl : lv_has ls 5 [(0, .ref (h 0)), (1, .int a1)] := hl
  generalize va_A (wM cI cZ h u) s.heap.size = A at hD hA hS ⊢
  have J96 : ∀ (v96 : MS) (j1 j2 : Int32) (G96 : Heap) (locs : List Loc) (ls : Array Slot), lv_has ls 5 [(0, .ref (h 0)), (1, .int a1), (2, .int j1), (3, .int j2)] → va_P D vwCl (wM cI cZ h v96) G96 → va_D A (wM cI cZ h v96) → va_S A s.heap G96 locs → va_K D vwCl (tyl cI cZ) s → InvM (n + 4) v96 → bz j2 → pX1_press u a1 = pX1_press_96 v96 a1 j1 j2 → W p l e (headSpec wsX1_press { frames := 5, cells := 0, slots := 0, locals := 110 }).room s m ([.ref (h 0), .int a1] : List Value).toArray below meth c G96 locs 0 0 (MQ below (va_Qi (fun r u9 => (r, u9) = pX1_press u a1 ∧ InvM (n + 50) u9) (BW D (tyl cI cZ) A (wM cI cZ h)) A) ([.ref (h 0), .int a1] : List Value).toArray s 0 0 A) (F0 m 96 ls []) := by
    intro v96 j1 j2 G96 locs ls hl hP hD hS hK hIv96 hzj2 hq
    refine lv_aload_n hx hb dX1_press_96 rfl (lv_at hl 0 rfl) ?_
    have hFc := va_free (wc := wM cI cZ h v96) hD hS hA [0, 1, 2] rfl
    refine va_calli (va_runV (As := []) (rest := []) ⟨hx, hb, hml, hown, hts⟩ (kX1_settle l D cI cZ h G96.size v96  (n + 4) hIv96 (by omega)) (cwV 0 hts gX1_press_X1_settle rfl rfl rfl (by decide +kernel) ⟨Nat.le_of_ble_eq_true rfl, Nat.le_of_ble_eq_true rfl⟩) ⟨bl_W, va_recv hK hP (ci := 1) (q0 := 0) rfl rfl, pr_W hP hK hD⟩ rfl rfl hl.1 rfl (lv_room (Nat.le_of_ble_eq_true rfl)) dX1_press_97 ⟨Nat.zero_le _, Nat.zero_le _⟩) hS (fun q _ h9 => hFc q h9) hFc (fun r1 u3 t H2 locs ht hvm hw hB hz1 hk1 hS => ?_)
    obtain ⟨hP, hK, hD⟩ := af_W hB ht hvm hFc
    clear hFc hB
    obtain ⟨e9, hIu3⟩ := hw
    have er1 : r1 = (pX1_settle v96).1 := congrArg Prod.fst e9
    have eu3 : u3 = (pX1_settle v96).2 := congrArg Prod.snd e9
    clear e9
    have hIu3 : InvM (n + 44) u3 := hIu3.mono (by omega)
    refine lv_istore (lv' := [(4, .int r1), (0, .ref (h 0)), (1, .int a1), (2, .int j1), (3, .int j2)]) hx hb dX1_press_100 hl (by decide) rfl (fun ls hl => ?_)
    refine lv_aload_n hx hb dX1_press_102 rfl (lv_at hl 1 rfl) ?_
    have hFc := va_free (wc := wM cI cZ h u3) hD hS hA [0, 1, 2] rfl
    refine va_calli (va_runV (As := []) (rest := []) ⟨hx, hb, hml, hown, hts⟩ (kX1_sum l D cI cZ h H2.size u3  (n + 44) hIu3 (by omega)) (cwV 0 hts gX1_press_X1_sum rfl rfl rfl (by decide +kernel) ⟨Nat.le_of_ble_eq_true rfl, Nat.le_of_ble_eq_true rfl⟩) ⟨bl_W, va_recv hK hP (ci := 1) (q0 := 0) rfl rfl, pr_W hP hK hD⟩ rfl rfl hl.1 rfl (lv_room (Nat.le_of_ble_eq_true rfl)) dX1_press_103 ⟨Nat.zero_le _, Nat.zero_le _⟩) hS (fun q _ h9 => hFc q h9) hFc (fun r4 u6 t H5 locs ht hvm hw hB hz1 hk1 hS => ?_)
    obtain ⟨hP, hK, hD⟩ := af_W hB ht hvm hFc
    clear hFc hB
    obtain ⟨er4, eu6⟩ := hw
    rw [eu6] at hP hD
    refine lv_iload_n hx hb dX1_press_106 rfl (lv_at hl 3 rfl) ?_
    refine lv_icmp_ne (tgt := 114) hx hb dX1_press_107 (by decide) (fun c7 => ?_) (fun c7 => ?_)
    · refine lv_iconst (v := 1) hx hb dX1_press_114 (by decide) ?_
      have hq1 : pX1_press u a1 = (1, u3) := (by subst er4; subst eu3; subst er1; rw [hq]; unfold pX1_press_96; first | (rw [if_neg c7]; done) | (rw [if_neg c7]; rfl))
      exact W.iret (v := 1) hx hb hr (fun t ht hW => ⟨⟨1, u3, rfl, ⟨hq1.symm, (hIu3.mono (by omega))⟩, by rw [ht]; exact hP, va_K.moved hW.alike hK, hD⟩, hS.F ht⟩) hS.2.2 dX1_press_115
    · refine lv_iconst (v := 0) hx hb dX1_press_110 (by decide) ?_
      refine lv_goto (tgt := 115) hx hb dX1_press_111 (by decide) ?_
      have hq1 : pX1_press u a1 = (0, u3) := (by subst er4; subst eu3; subst er1; rw [hq]; unfold pX1_press_96; first | (rw [if_pos c7]; done) | (rw [if_pos c7]; rfl))
      exact W.iret (v := 0) hx hb hr (fun t ht hW => ⟨⟨0, u3, rfl, ⟨hq1.symm, (hIu3.mono (by omega))⟩, by rw [ht]; exact hP, va_K.moved hW.alike hK, hD⟩, hS.F ht⟩) hS.2.2 dX1_press_115
  have J87 : ∀ (v87 : MS) (j1 j2 : Int32) (G87 : Heap) (locs : List Loc) (ls : Array Slot), lv_has ls 5 [(0, .ref (h 0)), (1, .int a1), (2, .int j1), (3, .int j2)] → va_P D vwCl (wM cI cZ h v87) G87 → va_D A (wM cI cZ h v87) → va_S A s.heap G87 locs → va_K D vwCl (tyl cI cZ) s → InvM (n + 2) v87 → bz j2 → pX1_press u a1 = pX1_press_87 v87 a1 j1 j2 → W p l e (headSpec wsX1_press { frames := 5, cells := 0, slots := 0, locals := 110 }).room s m ([.ref (h 0), .int a1] : List Value).toArray below meth c G87 locs 0 0 (MQ below (va_Qi (fun r u9 => (r, u9) = pX1_press u a1 ∧ InvM (n + 50) u9) (BW D (tyl cI cZ) A (wM cI cZ h)) A) ([.ref (h 0), .int a1] : List Value).toArray s 0 0 A) (F0 m 87 ls []) := by
    intro v87 j1 j2 G87 locs ls hl hP hD hS hK hIv87 hzj2 hq
    refine lv_iload_n hx hb dX1_press_87 rfl (lv_at hl 3 rfl) ?_
    refine lv_if_eq (tgt := 96) hx hb dX1_press_88 (by decide) (fun c8 => ?_) (fun c8 => ?_)
    · exact J96 v87 j1 j2 G87 _ _ (lv_sub hl [0, 1, 2, 3] rfl) hP hD hS hK (hIv87.mono (by omega)) hzj2 (by rw [hq]; unfold pX1_press_87; first | (rw [if_pos c8]; done) | (rw [if_pos c8]; rfl))
    · refine lv_aload_n hx hb dX1_press_91 rfl (lv_at hl 0 rfl) ?_
      refine lv_iload_n hx hb dX1_press_92 rfl (lv_at hl 1 rfl) ?_
      have hFc := va_free (wc := wM cI cZ h v87) hD hS hA [0, 1, 2] rfl
      refine va_callv (va_runV (As := [.int a1]) (rest := []) ⟨hx, hb, hml, hown, hts⟩ (kX1_button l D cI cZ h G87.size v87 a1 (n + 2) hIv87 (by omega)) (cwV 1 hts gX1_press_X1_button rfl rfl rfl (by decide +kernel) ⟨Nat.le_of_ble_eq_true rfl, Nat.le_of_ble_eq_true rfl⟩) ⟨bl_W, va_recv hK hP (ci := 1) (q0 := 0) rfl rfl, pr_W hP hK hD⟩ rfl rfl hl.1 rfl (lv_room (Nat.le_of_ble_eq_true rfl)) dX1_press_93 ⟨Nat.zero_le _, Nat.zero_le _⟩) hS (fun q _ h9 => hFc q h9) hFc (fun u11 t H10 locs ht hvm hw hB hz1 hk1 hS => ?_)
      obtain ⟨hP, hK, hD⟩ := af_W hB ht hvm hFc
      clear hFc hB
      obtain ⟨eu11, hIu11⟩ := hw
      have hIu11 : InvM (n + 4) u11 := hIu11.mono (by omega)
      exact J96 u11 j1 j2 H10 _ _ (lv_sub hl [0, 1, 2, 3] rfl) hP hD hS hK hIu11 hzj2 (by subst eu11; rw [hq]; unfold pX1_press_87; first | (rw [if_neg c8]; done) | (rw [if_neg c8]; rfl))
  have J64 : ∀ (v64 : MS) (j1 j2 : Int32) (G64 : Heap) (locs : List Loc) (ls : Array Slot), lv_has ls 5 [(0, .ref (h 0)), (1, .int a1), (2, .int j2)] → va_P D vwCl (wM cI cZ h v64) G64 → va_D A (wM cI cZ h v64) → va_S A s.heap G64 locs → va_K D vwCl (tyl cI cZ) s → InvM n v64 → bz j1 → pX1_press u a1 = pX1_press_64 v64 a1 j1 j2 → W p l e (headSpec wsX1_press { frames := 5, cells := 0, slots := 0, locals := 110 }).room s m ([.ref (h 0), .int a1] : List Value).toArray below meth c G64 locs 0 0 (MQ below (va_Qi (fun r u9 => (r, u9) = pX1_press u a1 ∧ InvM (n + 50) u9) (BW D (tyl cI cZ) A (wM cI cZ h)) A) ([.ref (h 0), .int a1] : List Value).toArray s 0 0 A) (F0 m 64 ls [.int j1]) := by
    intro v64 j1 j2 G64 locs ls hl hP hD hS hK hIv64 hzj1 hq
    refine lv_istore_n (lv' := [(3, .int j1), (0, .ref (h 0)), (1, .int a1), (2, .int j2)]) hx hb dX1_press_64 rfl hl (by decide) rfl (fun ls hl => ?_)
    refine lv_iload_n hx hb dX1_press_65 rfl (lv_at hl 0 rfl) ?_
    refine lv_if_eq (tgt := 87) hx hb dX1_press_66 (by decide) (fun c12 => ?_) (fun c12 => ?_)
    · exact J87 v64 j2 j1 G64 _ _ (lv_sub hl [1, 2, 3, 0] rfl) hP hD hS hK (hIv64.mono (by omega)) hzj1 (by rw [hq]; unfold pX1_press_64; first | (rw [if_pos c12]; done) | (rw [if_pos c12]; rfl))
    · refine lv_iload_n hx hb dX1_press_69 rfl (lv_at hl 2 rfl) ?_
      refine lv_bipush (v := 8) hx hb dX1_press_70 (by decide) ?_
      refine lv_icmp_ge (tgt := 87) hx hb dX1_press_72 (by decide) (fun c13 => ?_) (fun c13 => ?_)
      · exact J87 v64 j2 j1 G64 _ _ (lv_sub hl [1, 2, 3, 0] rfl) hP hD hS hK (hIv64.mono (by omega)) hzj1 (by rw [hq]; unfold pX1_press_64; first | (rw [if_neg c12, if_pos c13]; done) | (rw [if_neg c12, if_pos c13]; rfl))
      · refine lv_aload_n hx hb dX1_press_75 rfl (lv_at hl 1 rfl) ?_
        refine va_get (D := D) (ci := 1) (v := .int (ml v64)) (C := RX1) (T := TX1) (N := 15) hx hb hts hin hown hK hP 0 rfl rfl 1 (by decide) (hts (.fieldLink RX1 26 "ModeDeskModel" "lateral" "I") (by decide +kernel)) (fun _ h9 => h9) rfl dX1_press_76 ?_
        refine lv_if_ne (tgt := 87) hx hb dX1_press_79 (by decide) (fun c14 => ?_) (fun c14 => ?_)
        · exact J87 v64 j2 j1 G64 _ _ (lv_sub hl [1, 2, 3, 0] rfl) hP hD hS hK (hIv64.mono (by omega)) hzj1 (by rw [hq]; unfold pX1_press_64; first | (rw [if_neg c12, if_neg c13, if_neg c14]; done) | (rw [if_neg c12, if_neg c13, if_neg c14]; rfl))
        · refine lv_aload_n hx hb dX1_press_82 rfl (lv_at hl 1 rfl) ?_
          refine lv_iconst (v := 0) hx hb dX1_press_83 (by decide) ?_
          have hFc := va_free (wc := wM cI cZ h v64) hD hS hA [0, 1, 2] rfl
          refine va_callv (va_runV (As := [.int 0]) (rest := []) ⟨hx, hb, hml, hown, hts⟩ (kX1_base l D cI cZ h G64.size v64 0 n hIv64 (by omega)) (cwV 1 hts gX1_press_X1_base rfl rfl rfl (by decide +kernel) ⟨Nat.le_of_ble_eq_true rfl, Nat.le_of_ble_eq_true rfl⟩) ⟨bl_W, va_recv hK hP (ci := 1) (q0 := 0) rfl rfl, pr_W hP hK hD⟩ rfl rfl hl.1 rfl (lv_room (Nat.le_of_ble_eq_true rfl)) dX1_press_84 ⟨Nat.zero_le _, Nat.zero_le _⟩) hS (fun q _ h9 => hFc q h9) hFc (fun u17 t H16 locs ht hvm hw hB hz1 hk1 hS => ?_)
          obtain ⟨hP, hK, hD⟩ := af_W hB ht hvm hFc
          clear hFc hB
          obtain ⟨eu17, hIu17⟩ := hw
          exact J87 u17 j2 j1 H16 _ _ (lv_sub hl [1, 2, 3, 0] rfl) hP hD hS hK hIu17 hzj1 (by subst eu17; rw [hq]; unfold pX1_press_64; first | (rw [if_neg c12, if_neg c13, if_pos c14]; done) | (rw [if_neg c12, if_neg c13, if_pos c14]; rfl))
  refine lv_aload_n hx hb dX1_press_0 rfl (lv_at hl 0 rfl) ?_
  refine lv_iload_n hx hb dX1_press_1 rfl (lv_at hl 1 rfl) ?_
  refine lv_if_lt (tgt := 15) hx hb dX1_press_2 (by decide) (fun c18 => ?_) (fun c18 => ?_)
  · refine lv_iconst (v := 0) hx hb dX1_press_15 (by decide) ?_
    have hFc := va_free (wc := wM cI cZ h u) hD hS hA [0, 1, 2] rfl
    refine va_calli (va_runV (As := [.int 0]) (rest := []) ⟨hx, hb, hml, hown, hts⟩ (kX1_good l D cI cZ h s.heap.size u 0 n hI (by omega) bz0) (cwV 1 hts gX1_press_X1_good rfl rfl rfl (by decide +kernel) ⟨Nat.le_of_ble_eq_true rfl, Nat.le_of_ble_eq_true rfl⟩) ⟨bl_W, va_recv hK hP (ci := 1) (q0 := 0) rfl rfl, pr_W hP hK hD⟩ rfl rfl hl.1 rfl (lv_room (Nat.le_of_ble_eq_true rfl)) dX1_press_16 ⟨Nat.zero_le _, Nat.zero_le _⟩) hS (fun q _ h9 => hFc q h9) hFc (fun r19 u21 t H20 locs ht hvm hw hB hz1 hk1 hS => ?_)
    obtain ⟨hP, hK, hD⟩ := af_W hB ht hvm hFc
    clear hFc hB
    obtain ⟨e9, hIu21, br19⟩ := hw
    have er19 : r19 = (pX1_good u 0).1 := congrArg Prod.fst e9
    have eu21 : u21 = (pX1_good u 0).2 := congrArg Prod.snd e9
    clear e9
    have e9 : r19 = 0 := er19.trans (by rfl)
    clear er19
    subst e9
    refine lv_if_ne (tgt := 24) hx hb dX1_press_19 (by decide) (fun c9 => absurd (by decide) c9) (fun _ => ?_)
    refine lv_iconst (v := 0) hx hb dX1_press_22 (by decide) ?_
    have hq1 : pX1_press u a1 = (0, u21) := (by subst eu21; unfold pX1_press; first | (rw [if_pos c18]; done) | (rw [if_pos c18]; rfl))
    exact W.iret (v := 0) hx hb hr (fun t ht hW => ⟨⟨0, u21, rfl, ⟨hq1.symm, (hIu21.mono (by omega))⟩, by rw [ht]; exact hP, va_K.moved hW.alike hK, hD⟩, hS.F ht⟩) hS.2.2 dX1_press_23
  · refine lv_iload_n hx hb dX1_press_5 rfl (lv_at hl 1 rfl) ?_
    refine lv_bipush (v := 9) hx hb dX1_press_6 (by decide) ?_
    refine lv_icmp_gt (tgt := 15) hx hb dX1_press_8 (by decide) (fun c22 => ?_) (fun c22 => ?_)
    · refine lv_iconst (v := 0) hx hb dX1_press_15 (by decide) ?_
      have hFc := va_free (wc := wM cI cZ h u) hD hS hA [0, 1, 2] rfl
      refine va_calli (va_runV (As := [.int 0]) (rest := []) ⟨hx, hb, hml, hown, hts⟩ (kX1_good l D cI cZ h s.heap.size u 0 n hI (by omega) bz0) (cwV 1 hts gX1_press_X1_good rfl rfl rfl (by decide +kernel) ⟨Nat.le_of_ble_eq_true rfl, Nat.le_of_ble_eq_true rfl⟩) ⟨bl_W, va_recv hK hP (ci := 1) (q0 := 0) rfl rfl, pr_W hP hK hD⟩ rfl rfl hl.1 rfl (lv_room (Nat.le_of_ble_eq_true rfl)) dX1_press_16 ⟨Nat.zero_le _, Nat.zero_le _⟩) hS (fun q _ h9 => hFc q h9) hFc (fun r23 u25 t H24 locs ht hvm hw hB hz1 hk1 hS => ?_)
      obtain ⟨hP, hK, hD⟩ := af_W hB ht hvm hFc
      clear hFc hB
      obtain ⟨e9, hIu25, br23⟩ := hw
      have er23 : r23 = (pX1_good u 0).1 := congrArg Prod.fst e9
      have eu25 : u25 = (pX1_good u 0).2 := congrArg Prod.snd e9
      clear e9
      have e9 : r23 = 0 := er23.trans (by rfl)
      clear er23
      subst e9
      refine lv_if_ne (tgt := 24) hx hb dX1_press_19 (by decide) (fun c9 => absurd (by decide) c9) (fun _ => ?_)
      refine lv_iconst (v := 0) hx hb dX1_press_22 (by decide) ?_
      have hq1 : pX1_press u a1 = (0, u25) := (by subst eu25; unfold pX1_press; first | (rw [if_neg c18, if_pos c22]; done) | (rw [if_neg c18, if_pos c22]; rfl))
      exact W.iret (v := 0) hx hb hr (fun t ht hW => ⟨⟨0, u25, rfl, ⟨hq1.symm, (hIu25.mono (by omega))⟩, by rw [ht]; exact hP, va_K.moved hW.alike hK, hD⟩, hS.F ht⟩) hS.2.2 dX1_press_23
    · refine lv_iconst (v := 1) hx hb dX1_press_11 (by decide) ?_
      refine lv_goto (tgt := 16) hx hb dX1_press_12 (by decide) ?_
      have hFc := va_free (wc := wM cI cZ h u) hD hS hA [0, 1, 2] rfl
      refine va_calli (va_runV (As := [.int 1]) (rest := []) ⟨hx, hb, hml, hown, hts⟩ (kX1_good l D cI cZ h s.heap.size u 1 n hI (by omega) bz1) (cwV 1 hts gX1_press_X1_good rfl rfl rfl (by decide +kernel) ⟨Nat.le_of_ble_eq_true rfl, Nat.le_of_ble_eq_true rfl⟩) ⟨bl_W, va_recv hK hP (ci := 1) (q0 := 0) rfl rfl, pr_W hP hK hD⟩ rfl rfl hl.1 rfl (lv_room (Nat.le_of_ble_eq_true rfl)) dX1_press_16 ⟨Nat.zero_le _, Nat.zero_le _⟩) hS (fun q _ h9 => hFc q h9) hFc (fun r26 u28 t H27 locs ht hvm hw hB hz1 hk1 hS => ?_)
      obtain ⟨hP, hK, hD⟩ := af_W hB ht hvm hFc
      clear hFc hB
      obtain ⟨e9, hIu28, br26⟩ := hw
      have er26 : r26 = (pX1_good u 1).1 := congrArg Prod.fst e9
      have eu28 : u28 = (pX1_good u 1).2 := congrArg Prod.snd e9
      clear e9
      have e9 : r26 = 1 := er26.trans (by rfl)
      clear er26
      subst e9
      refine lv_if_ne (tgt := 24) hx hb dX1_press_19 (by decide) (fun _ => ?_) (fun c9 => absurd c9 (by decide))
      refine lv_aload_n hx hb dX1_press_24 rfl (lv_at hl 0 rfl) ?_
      have hFc := va_free (wc := wM cI cZ h u28) hD hS hA [0, 1, 2] rfl
      refine va_calli (va_runV (As := []) (rest := []) ⟨hx, hb, hml, hown, hts⟩ (kX1_sum l D cI cZ h H27.size u28  n hIu28 (by omega)) (cwV 0 hts gX1_press_X1_sum rfl rfl rfl (by decide +kernel) ⟨Nat.le_of_ble_eq_true rfl, Nat.le_of_ble_eq_true rfl⟩) ⟨bl_W, va_recv hK hP (ci := 1) (q0 := 0) rfl rfl, pr_W hP hK hD⟩ rfl rfl hl.1 rfl (lv_room (Nat.le_of_ble_eq_true rfl)) dX1_press_25 ⟨Nat.zero_le _, Nat.zero_le _⟩) hS (fun q _ h9 => hFc q h9) hFc (fun r29 u31 t H30 locs ht hvm hw hB hz1 hk1 hS => ?_)
      obtain ⟨hP, hK, hD⟩ := af_W hB ht hvm hFc
      clear hFc hB
      obtain ⟨er29, eu31⟩ := hw
      rw [eu31] at hP hD
      refine lv_istore_n (lv' := [(2, .int r29), (0, .ref (h 0)), (1, .int a1)]) hx hb dX1_press_28 rfl hl (by decide) rfl (fun ls hl => ?_)
      refine lv_aload_n hx hb dX1_press_29 rfl (lv_at hl 1 rfl) ?_
      refine lv_iconst (v := 0) hx hb dX1_press_30 (by decide) ?_
      refine va_put (D := D) (ci := 1) (v := .int 0) (ty := .int) (C := RX1) (T := TX1) (N := 15) hx hb hts hin tyX1 tyX1_ok nmX1 hown hK hP hD hS 0 rfl rfl 11 (by decide) (hts (.fieldLink RX1 33 "ModeDeskModel" "flash0" "I") (by decide +kernel)) (fun _ h9 => h9) rfl (by decide +kernel) rfl rfl (Nat.le_of_ble_eq_true rfl) dX1_press_31 (fun H33 locs hP hD hS => ?_)
      obtain ⟨u32, eu32⟩ : ∃ y : MS, y = mf_ u28 0 := ⟨_, rfl⟩
      have hP : va_P D vwCl (wM cI cZ h u32) H33 := by rw [eu32]; exact hP
      have hD : va_D A (wM cI cZ h u32) := by rw [eu32]; exact hD
      have hIu32 : InvM n u32 := by rw [eu32]; exact InvM.sf hIu28 _
      refine lv_aload_n hx hb dX1_press_34 rfl (lv_at hl 1 rfl) ?_
      refine lv_iconst (v := 0) hx hb dX1_press_35 (by decide) ?_
      refine va_put (D := D) (ci := 1) (v := .int 0) (ty := .int) (C := RX1) (T := TX1) (N := 15) hx hb hts hin tyX1 tyX1_ok nmX1 hown hK hP hD hS 0 rfl rfl 12 (by decide) (hts (.fieldLink RX1 39 "ModeDeskModel" "flash1" "I") (by decide +kernel)) (fun _ h9 => h9) rfl (by decide +kernel) rfl rfl (Nat.le_of_ble_eq_true rfl) dX1_press_36 (fun H35 locs hP hD hS => ?_)
      obtain ⟨u34, eu34⟩ : ∃ y : MS, y = mh_ u32 0 := ⟨_, rfl⟩
      have hP : va_P D vwCl (wM cI cZ h u34) H35 := by rw [eu34]; exact hP
      have hD : va_D A (wM cI cZ h u34) := by rw [eu34]; exact hD
      have hIu34 : InvM n u34 := by rw [eu34]; exact InvM.sh hIu32 _
      refine lv_iload_n hx hb dX1_press_39 rfl (lv_at hl 2 rfl) ?_
      refine lv_bipush (v := 7) hx hb dX1_press_40 (by decide) ?_
      refine lv_icmp_gt (tgt := 59) hx hb dX1_press_42 (by decide) (fun c36 => ?_) (fun c36 => ?_)
      · refine lv_iconst (v := 1) hx hb dX1_press_59 (by decide) ?_
        refine lv_goto (tgt := 64) hx hb dX1_press_60 (by decide) ?_
        exact J64 u34 1 r29 H35 _ _ (lv_sub hl [1, 2, 0] rfl) hP hD hS hK hIu34 bz1 (by subst eu34; subst eu32; subst er29; subst eu28; unfold pX1_press; first | (rw [if_neg c18, if_neg c22, if_pos c36]; done) | (rw [if_neg c18, if_neg c22, if_pos c36]; rfl))
      · refine lv_aload_n hx hb dX1_press_45 rfl (lv_at hl 1 rfl) ?_
        refine va_get (D := D) (ci := 1) (v := .int (mb u34)) (C := RX1) (T := TX1) (N := 15) hx hb hts hin hown hK hP 0 rfl rfl 7 (by decide) (hts (.fieldLink RX1 65 "ModeDeskModel" "bad0" "Z") (by decide +kernel)) (fun _ h9 => h9) rfl dX1_press_46 ?_
        refine lv_if_eq (tgt := 59) hx hb dX1_press_49 (by decide) (fun c37 => ?_) (fun c37 => ?_)
        · refine lv_iconst (v := 1) hx hb dX1_press_59 (by decide) ?_
          refine lv_goto (tgt := 64) hx hb dX1_press_60 (by decide) ?_
          exact J64 u34 1 r29 H35 _ _ (lv_sub hl [1, 2, 0] rfl) hP hD hS hK hIu34 bz1 (by subst eu34; subst eu32; subst er29; subst eu28; unfold pX1_press; first | (rw [if_neg c18, if_neg c22, if_neg c36, if_pos c37]; done) | (rw [if_neg c18, if_neg c22, if_neg c36, if_pos c37]; rfl))
        · refine lv_aload_n hx hb dX1_press_52 rfl (lv_at hl 1 rfl) ?_
          refine va_get (D := D) (ci := 1) (v := .int (md u34)) (C := RX1) (T := TX1) (N := 15) hx hb hts hin hown hK hP 0 rfl rfl 8 (by decide) (hts (.fieldLink RX1 68 "ModeDeskModel" "bad1" "Z") (by decide +kernel)) (fun _ h9 => h9) rfl dX1_press_53 ?_
          refine lv_if_ne (tgt := 63) hx hb dX1_press_56 (by decide) (fun c38 => ?_) (fun c38 => ?_)
          · refine lv_iconst (v := 0) hx hb dX1_press_63 (by decide) ?_
            exact J64 u34 0 r29 H35 _ _ (lv_sub hl [1, 2, 0] rfl) hP hD hS hK hIu34 bz0 (by subst eu34; subst eu32; subst er29; subst eu28; unfold pX1_press; first | (rw [if_neg c18, if_neg c22, if_neg c36, if_neg c37, if_neg c38]; done) | (rw [if_neg c18, if_neg c22, if_neg c36, if_neg c37, if_neg c38]; rfl))
          · refine lv_iconst (v := 1) hx hb dX1_press_59 (by decide) ?_
            refine lv_goto (tgt := 64) hx hb dX1_press_60 (by decide) ?_
            exact J64 u34 1 r29 H35 _ _ (lv_sub hl [1, 2, 0] rfl) hP hD hS hK hIu34 bz1 (by subst eu34; subst eu32; subst er29; subst eu28; unfold pX1_press; first | (rw [if_neg c18, if_neg c22, if_neg c36, if_neg c37, if_pos c38]; done) | (rw [if_neg c18, if_neg c22, if_neg c36, if_neg c37, if_pos c38]; rfl))
def pX1_sense_50 (u : MS) (a1 a2 : Int32) (j1 j2 : Int32) : Int32 × MS := if a1 < 0 then ((0, (pX1_good u 0).2)) else (if 6 < a1 then ((0, (pX1_good u 0).2)) else (if a2 < j2 then ((0, (pX1_good u 0).2)) else (if j1 < a2 then ((0, (pX1_good u 0).2)) else (((pX1_settle (mV_ ((pX1_good u 1).2) (upd (mV ((pX1_good u 1).2)) (Int32.toNatClampNeg a1) a2))).1, (pX1_settle (mV_ ((pX1_good u 1).2) (upd (mV ((pX1_good u 1).2)) (Int32.toNatClampNeg a1) a2))).2)))))
def pX1_sense_16 (u : MS) (a1 a2 : Int32) (j1 : Int32) : Int32 × MS := if 2 ≤ a1 then (if 4 ≤ a1 then (if a1 = 4 then (pX1_sense_50 u a1 a2 600 j1) else (pX1_sense_50 u a1 a2 1 j1)) else (pX1_sense_50 u a1 a2 50000 j1)) else (pX1_sense_50 u a1 a2 1000 j1)
def pX1_sense (u : MS) (a1 a2 : Int32) : Int32 × MS := if a1 = 0 then (pX1_sense_16 u a1 a2 (-1000)) else (if a1 = 1 then (pX1_sense_16 u a1 a2 (-1000)) else (pX1_sense_16 u a1 a2 0))
set_option maxHeartbeats 4000000 in
set_option maxRecDepth 100000 in
theorem kX1_sense (l : Launch) (D : va_G) (cI cZ : ClassId) (h : Nat → Nat) (sz : Nat) (u : MS) (a1 a2 : Int32) (n : Nat) (hI : InvM n u) (hn : n ≤ 1999000) : Mi l yX1_sense wsX1_sense { frames := 5, cells := 0, slots := 0, locals := 110 } D (tyl cI cZ) (wM cI cZ h) sz u [.ref (h 0), .int a1, .int a2] (fun r u9 => (r, u9) = pX1_sense u a1 a2 ∧ InvM (n + 50) u9) := by
  refine Met.ofW (cc := cX1_sense) (maxL := 5) (ret := (some .int)) (by decide) rfl ?_
  intro p e s m args below meth c s₁ B hml hv
  obtain ⟨rfl, hsz, hP, hK, hD0⟩ := hv
  have hx := B.exec
  have hb := B.bytes
  have hr := B.returns
  have hts := atoms_spec (ws := wsX1_sense) B.pre
  have hin : ∀ w ∈ wsX10, w ∈ wsX1_sense := fun w h9 => List.mem_cons_of_mem _ (List.mem_append_right _ h9)
  have hown : s.vm.findClass RX1 = some m.cls := findClass_of_methodNamed B.named
  have hlocks := B.notSynchronized
  subst hsz
  have hD : va_D (va_A (wM cI cZ h u) s.heap.size) (wM cI cZ h u) := hD0.self (sz := s.heap.size)
  have hA : ∀ q : Nat, s.heap.size ≤ q → va_A (wM cI cZ h u) s.heap.size q := fun q h9 => Or.inr h9
  have hS : va_S (va_A (wM cI cZ h u) s.heap.size) s.heap s.heap [] := va_S.rf
  have hl := lv_entry ([.ref (h 0), .int a1, .int a2]) (n := 5) (Nat.le_of_ble_eq_true rfl)
  rw [lg_entry_eq]
  generalize (lg_sl ([.ref (h 0), .int a1, .int a2]) ++ List.replicate (5 - (lg_sl ([.ref (h 0), .int a1, .int a2])).length) Slot.unset).toArray = ls at hl ⊢
  have hl : lv_has ls 5 [(0, .ref (h 0)), (1, .int a1), (2, .int a2)] := hl
  generalize va_A (wM cI cZ h u) s.heap.size = A at hD hA hS ⊢
  have J50 : ∀ (v50 : MS) (j1 j2 : Int32) (G50 : Heap) (locs : List Loc) (ls : Array Slot), lv_has ls 5 [(0, .ref (h 0)), (1, .int a1), (2, .int a2), (3, .int j2)] → va_P D vwCl (wM cI cZ h v50) G50 → va_D A (wM cI cZ h v50) → va_S A s.heap G50 locs → va_K D vwCl (tyl cI cZ) s → InvM n v50 → pX1_sense u a1 a2 = pX1_sense_50 v50 a1 a2 j1 j2 → W p l e (headSpec wsX1_sense { frames := 5, cells := 0, slots := 0, locals := 110 }).room s m ([.ref (h 0), .int a1, .int a2] : List Value).toArray below meth c G50 locs 0 0 (MQ below (va_Qi (fun r u9 => (r, u9) = pX1_sense u a1 a2 ∧ InvM (n + 50) u9) (BW D (tyl cI cZ) A (wM cI cZ h)) A) ([.ref (h 0), .int a1, .int a2] : List Value).toArray s 0 0 A) (F0 m 50 ls [.int j1]) := by
    intro v50 j1 j2 G50 locs ls hl hP hD hS hK hIv50  hq
    refine lv_istore (lv' := [(4, .int j1), (0, .ref (h 0)), (1, .int a1), (2, .int a2), (3, .int j2)]) hx hb dX1_sense_50 hl (by decide) rfl (fun ls hl => ?_)
    refine lv_aload_n hx hb dX1_sense_52 rfl (lv_at hl 1 rfl) ?_
    refine lv_iload_n hx hb dX1_sense_53 rfl (lv_at hl 2 rfl) ?_
    refine lv_if_lt (tgt := 78) hx hb dX1_sense_54 (by decide) (fun c1 => ?_) (fun c1 => ?_)
    · refine lv_iconst (v := 0) hx hb dX1_sense_78 (by decide) ?_
      have hFc := va_free (wc := wM cI cZ h v50) hD hS hA [0, 1, 2] rfl
      refine va_calli (va_runV (As := [.int 0]) (rest := []) ⟨hx, hb, hml, hown, hts⟩ (kX1_good l D cI cZ h G50.size v50 0 n hIv50 (by omega) bz0) (cwV 1 hts gX1_sense_X1_good rfl rfl rfl (by decide +kernel) ⟨Nat.le_of_ble_eq_true rfl, Nat.le_of_ble_eq_true rfl⟩) ⟨bl_W, va_recv hK hP (ci := 1) (q0 := 0) rfl rfl, pr_W hP hK hD⟩ rfl rfl hl.1 rfl (lv_room (Nat.le_of_ble_eq_true rfl)) dX1_sense_79 ⟨Nat.zero_le _, Nat.zero_le _⟩) hS (fun q _ h9 => hFc q h9) hFc (fun r2 u4 t H3 locs ht hvm hw hB hz1 hk1 hS => ?_)
      obtain ⟨hP, hK, hD⟩ := af_W hB ht hvm hFc
      clear hFc hB
      obtain ⟨e9, hIu4, br2⟩ := hw
      have er2 : r2 = (pX1_good v50 0).1 := congrArg Prod.fst e9
      have eu4 : u4 = (pX1_good v50 0).2 := congrArg Prod.snd e9
      clear e9
      have e9 : r2 = 0 := er2.trans (by rfl)
      clear er2
      subst e9
      refine lv_if_ne (tgt := 87) hx hb dX1_sense_82 (by decide) (fun c9 => absurd (by decide) c9) (fun _ => ?_)
      refine lv_iconst (v := 0) hx hb dX1_sense_85 (by decide) ?_
      have hq1 : pX1_sense u a1 a2 = (0, u4) := (by subst eu4; rw [hq]; unfold pX1_sense_50; first | (rw [if_pos c1]; done) | (rw [if_pos c1]; rfl))
      exact W.iret (v := 0) hx hb hr (fun t ht hW => ⟨⟨0, u4, rfl, ⟨hq1.symm, (hIu4.mono (by omega))⟩, by rw [ht]; exact hP, va_K.moved hW.alike hK, hD⟩, hS.F ht⟩) hS.2.2 dX1_sense_86
    · refine lv_iload_n hx hb dX1_sense_57 rfl (lv_at hl 2 rfl) ?_
      refine lv_bipush (v := 6) hx hb dX1_sense_58 (by decide) ?_
      refine lv_icmp_gt (tgt := 78) hx hb dX1_sense_60 (by decide) (fun c5 => ?_) (fun c5 => ?_)
      · refine lv_iconst (v := 0) hx hb dX1_sense_78 (by decide) ?_
        have hFc := va_free (wc := wM cI cZ h v50) hD hS hA [0, 1, 2] rfl
        refine va_calli (va_runV (As := [.int 0]) (rest := []) ⟨hx, hb, hml, hown, hts⟩ (kX1_good l D cI cZ h G50.size v50 0 n hIv50 (by omega) bz0) (cwV 1 hts gX1_sense_X1_good rfl rfl rfl (by decide +kernel) ⟨Nat.le_of_ble_eq_true rfl, Nat.le_of_ble_eq_true rfl⟩) ⟨bl_W, va_recv hK hP (ci := 1) (q0 := 0) rfl rfl, pr_W hP hK hD⟩ rfl rfl hl.1 rfl (lv_room (Nat.le_of_ble_eq_true rfl)) dX1_sense_79 ⟨Nat.zero_le _, Nat.zero_le _⟩) hS (fun q _ h9 => hFc q h9) hFc (fun r6 u8 t H7 locs ht hvm hw hB hz1 hk1 hS => ?_)
        obtain ⟨hP, hK, hD⟩ := af_W hB ht hvm hFc
        clear hFc hB
        obtain ⟨e9, hIu8, br6⟩ := hw
        have er6 : r6 = (pX1_good v50 0).1 := congrArg Prod.fst e9
        have eu8 : u8 = (pX1_good v50 0).2 := congrArg Prod.snd e9
        clear e9
        have e9 : r6 = 0 := er6.trans (by rfl)
        clear er6
        subst e9
        refine lv_if_ne (tgt := 87) hx hb dX1_sense_82 (by decide) (fun c9 => absurd (by decide) c9) (fun _ => ?_)
        refine lv_iconst (v := 0) hx hb dX1_sense_85 (by decide) ?_
        have hq1 : pX1_sense u a1 a2 = (0, u8) := (by subst eu8; rw [hq]; unfold pX1_sense_50; first | (rw [if_neg c1, if_pos c5]; done) | (rw [if_neg c1, if_pos c5]; rfl))
        exact W.iret (v := 0) hx hb hr (fun t ht hW => ⟨⟨0, u8, rfl, ⟨hq1.symm, (hIu8.mono (by omega))⟩, by rw [ht]; exact hP, va_K.moved hW.alike hK, hD⟩, hS.F ht⟩) hS.2.2 dX1_sense_86
      · refine lv_iload_n hx hb dX1_sense_63 rfl (lv_at hl 3 rfl) ?_
        refine lv_iload_n hx hb dX1_sense_64 rfl (lv_at hl 4 rfl) ?_
        refine lv_icmp_lt (tgt := 78) hx hb dX1_sense_65 (by decide) (fun c9 => ?_) (fun c9 => ?_)
        · refine lv_iconst (v := 0) hx hb dX1_sense_78 (by decide) ?_
          have hFc := va_free (wc := wM cI cZ h v50) hD hS hA [0, 1, 2] rfl
          refine va_calli (va_runV (As := [.int 0]) (rest := []) ⟨hx, hb, hml, hown, hts⟩ (kX1_good l D cI cZ h G50.size v50 0 n hIv50 (by omega) bz0) (cwV 1 hts gX1_sense_X1_good rfl rfl rfl (by decide +kernel) ⟨Nat.le_of_ble_eq_true rfl, Nat.le_of_ble_eq_true rfl⟩) ⟨bl_W, va_recv hK hP (ci := 1) (q0 := 0) rfl rfl, pr_W hP hK hD⟩ rfl rfl hl.1 rfl (lv_room (Nat.le_of_ble_eq_true rfl)) dX1_sense_79 ⟨Nat.zero_le _, Nat.zero_le _⟩) hS (fun q _ h9 => hFc q h9) hFc (fun r10 u12 t H11 locs ht hvm hw hB hz1 hk1 hS => ?_)
          obtain ⟨hP, hK, hD⟩ := af_W hB ht hvm hFc
          clear hFc hB
          obtain ⟨e9, hIu12, br10⟩ := hw
          have er10 : r10 = (pX1_good v50 0).1 := congrArg Prod.fst e9
          have eu12 : u12 = (pX1_good v50 0).2 := congrArg Prod.snd e9
          clear e9
          have e9 : r10 = 0 := er10.trans (by rfl)
          clear er10
          subst e9
          refine lv_if_ne (tgt := 87) hx hb dX1_sense_82 (by decide) (fun c9 => absurd (by decide) c9) (fun _ => ?_)
          refine lv_iconst (v := 0) hx hb dX1_sense_85 (by decide) ?_
          have hq1 : pX1_sense u a1 a2 = (0, u12) := (by subst eu12; rw [hq]; unfold pX1_sense_50; first | (rw [if_neg c1, if_neg c5, if_pos c9]; done) | (rw [if_neg c1, if_neg c5, if_pos c9]; rfl))
          exact W.iret (v := 0) hx hb hr (fun t ht hW => ⟨⟨0, u12, rfl, ⟨hq1.symm, (hIu12.mono (by omega))⟩, by rw [ht]; exact hP, va_K.moved hW.alike hK, hD⟩, hS.F ht⟩) hS.2.2 dX1_sense_86
        · refine lv_iload_n hx hb dX1_sense_68 rfl (lv_at hl 3 rfl) ?_
          refine lv_iload hx hb dX1_sense_69 (lv_at hl 0 rfl) ?_
          refine lv_icmp_gt (tgt := 78) hx hb dX1_sense_71 (by decide) (fun c13 => ?_) (fun c13 => ?_)
          · refine lv_iconst (v := 0) hx hb dX1_sense_78 (by decide) ?_
            have hFc := va_free (wc := wM cI cZ h v50) hD hS hA [0, 1, 2] rfl
            refine va_calli (va_runV (As := [.int 0]) (rest := []) ⟨hx, hb, hml, hown, hts⟩ (kX1_good l D cI cZ h G50.size v50 0 n hIv50 (by omega) bz0) (cwV 1 hts gX1_sense_X1_good rfl rfl rfl (by decide +kernel) ⟨Nat.le_of_ble_eq_true rfl, Nat.le_of_ble_eq_true rfl⟩) ⟨bl_W, va_recv hK hP (ci := 1) (q0 := 0) rfl rfl, pr_W hP hK hD⟩ rfl rfl hl.1 rfl (lv_room (Nat.le_of_ble_eq_true rfl)) dX1_sense_79 ⟨Nat.zero_le _, Nat.zero_le _⟩) hS (fun q _ h9 => hFc q h9) hFc (fun r14 u16 t H15 locs ht hvm hw hB hz1 hk1 hS => ?_)
            obtain ⟨hP, hK, hD⟩ := af_W hB ht hvm hFc
            clear hFc hB
            obtain ⟨e9, hIu16, br14⟩ := hw
            have er14 : r14 = (pX1_good v50 0).1 := congrArg Prod.fst e9
            have eu16 : u16 = (pX1_good v50 0).2 := congrArg Prod.snd e9
            clear e9
            have e9 : r14 = 0 := er14.trans (by rfl)
            clear er14
            subst e9
            refine lv_if_ne (tgt := 87) hx hb dX1_sense_82 (by decide) (fun c9 => absurd (by decide) c9) (fun _ => ?_)
            refine lv_iconst (v := 0) hx hb dX1_sense_85 (by decide) ?_
            have hq1 : pX1_sense u a1 a2 = (0, u16) := (by subst eu16; rw [hq]; unfold pX1_sense_50; first | (rw [if_neg c1, if_neg c5, if_neg c9, if_pos c13]; done) | (rw [if_neg c1, if_neg c5, if_neg c9, if_pos c13]; rfl))
            exact W.iret (v := 0) hx hb hr (fun t ht hW => ⟨⟨0, u16, rfl, ⟨hq1.symm, (hIu16.mono (by omega))⟩, by rw [ht]; exact hP, va_K.moved hW.alike hK, hD⟩, hS.F ht⟩) hS.2.2 dX1_sense_86
          · refine lv_iconst (v := 1) hx hb dX1_sense_74 (by decide) ?_
            refine lv_goto (tgt := 79) hx hb dX1_sense_75 (by decide) ?_
            have hFc := va_free (wc := wM cI cZ h v50) hD hS hA [0, 1, 2] rfl
            refine va_calli (va_runV (As := [.int 1]) (rest := []) ⟨hx, hb, hml, hown, hts⟩ (kX1_good l D cI cZ h G50.size v50 1 n hIv50 (by omega) bz1) (cwV 1 hts gX1_sense_X1_good rfl rfl rfl (by decide +kernel) ⟨Nat.le_of_ble_eq_true rfl, Nat.le_of_ble_eq_true rfl⟩) ⟨bl_W, va_recv hK hP (ci := 1) (q0 := 0) rfl rfl, pr_W hP hK hD⟩ rfl rfl hl.1 rfl (lv_room (Nat.le_of_ble_eq_true rfl)) dX1_sense_79 ⟨Nat.zero_le _, Nat.zero_le _⟩) hS (fun q _ h9 => hFc q h9) hFc (fun r17 u19 t H18 locs ht hvm hw hB hz1 hk1 hS => ?_)
            obtain ⟨hP, hK, hD⟩ := af_W hB ht hvm hFc
            clear hFc hB
            obtain ⟨e9, hIu19, br17⟩ := hw
            have er17 : r17 = (pX1_good v50 1).1 := congrArg Prod.fst e9
            have eu19 : u19 = (pX1_good v50 1).2 := congrArg Prod.snd e9
            clear e9
            have e9 : r17 = 1 := er17.trans (by rfl)
            clear er17
            subst e9
            refine lv_if_ne (tgt := 87) hx hb dX1_sense_82 (by decide) (fun _ => ?_) (fun c9 => absurd c9 (by decide))
            refine lv_aload_n hx hb dX1_sense_87 rfl (lv_at hl 1 rfl) ?_
            refine va_get (D := D) (ci := 1) (v := .ref (h 1)) (C := RX1) (T := TX1) (N := 15) hx hb hts hin hown hK hP 0 rfl rfl 10 (by decide) (hts (.fieldLink RX1 7 "ModeDeskModel" "values" "[I") (by decide +kernel)) (fun _ h9 => h9) rfl dX1_sense_88 ?_
            refine lv_iload_n hx hb dX1_sense_91 rfl (lv_at hl 2 rfl) ?_
            refine lv_iload_n hx hb dX1_sense_92 rfl (lv_at hl 3 rfl) ?_
            refine va_iast hx hb hK hP hD hS 1 0 rfl rfl (vi_7 c1 c5) dX1_sense_93 (fun H21 locs hP hD hS => ?_)
            obtain ⟨u20, eu20⟩ : ∃ y : MS, y = mV_ u19 (upd (mV u19) (Int32.toNatClampNeg a1) a2) := ⟨_, rfl⟩
            have hP : va_P D vwCl (wM cI cZ h u20) H21 := by rw [eu20]; exact hP
            have hD : va_D A (wM cI cZ h u20) := by rw [eu20]; exact hD
            have hIu20 : InvM n u20 := by rw [eu20]; exact InvM.sV hIu19 _
            refine lv_aload_n hx hb dX1_sense_94 rfl (lv_at hl 1 rfl) ?_
            have hFc := va_free (wc := wM cI cZ h u20) hD hS hA [0, 1, 2] rfl
            refine va_calli (va_runV (As := []) (rest := []) ⟨hx, hb, hml, hown, hts⟩ (kX1_settle l D cI cZ h H21.size u20  n hIu20 (by omega)) (cwV 0 hts gX1_sense_X1_settle rfl rfl rfl (by decide +kernel) ⟨Nat.le_of_ble_eq_true rfl, Nat.le_of_ble_eq_true rfl⟩) ⟨bl_W, va_recv hK hP (ci := 1) (q0 := 0) rfl rfl, pr_W hP hK hD⟩ rfl rfl hl.1 rfl (lv_room (Nat.le_of_ble_eq_true rfl)) dX1_sense_95 ⟨Nat.zero_le _, Nat.zero_le _⟩) hS (fun q _ h9 => hFc q h9) hFc (fun r22 u24 t H23 locs ht hvm hw hB hz1 hk1 hS => ?_)
            obtain ⟨hP, hK, hD⟩ := af_W hB ht hvm hFc
            clear hFc hB
            obtain ⟨e9, hIu24⟩ := hw
            have er22 : r22 = (pX1_settle u20).1 := congrArg Prod.fst e9
            have eu24 : u24 = (pX1_settle u20).2 := congrArg Prod.snd e9
            clear e9
            have hq1 : pX1_sense u a1 a2 = (r22, u24) := (by subst eu24; subst er22; subst eu20; subst eu19; rw [hq]; unfold pX1_sense_50; first | (rw [if_neg c1, if_neg c5, if_neg c9, if_neg c13]; done) | (rw [if_neg c1, if_neg c5, if_neg c9, if_neg c13]; rfl))
            exact W.iret (v := r22) hx hb hr (fun t ht hW => ⟨⟨r22, u24, rfl, ⟨hq1.symm, (hIu24.mono (by omega))⟩, by rw [ht]; exact hP, va_K.moved hW.alike hK, hD⟩, hS.F ht⟩) hS.2.2 dX1_sense_98
  have J16 : ∀ (v16 : MS) (j1 : Int32) (G16 : Heap) (locs : List Loc) (ls : Array Slot), lv_has ls 5 [(0, .ref (h 0)), (1, .int a1), (2, .int a2)] → va_P D vwCl (wM cI cZ h v16) G16 → va_D A (wM cI cZ h v16) → va_S A s.heap G16 locs → va_K D vwCl (tyl cI cZ) s → InvM n v16 → pX1_sense u a1 a2 = pX1_sense_16 v16 a1 a2 j1 → W p l e (headSpec wsX1_sense { frames := 5, cells := 0, slots := 0, locals := 110 }).room s m ([.ref (h 0), .int a1, .int a2] : List Value).toArray below meth c G16 locs 0 0 (MQ below (va_Qi (fun r u9 => (r, u9) = pX1_sense u a1 a2 ∧ InvM (n + 50) u9) (BW D (tyl cI cZ) A (wM cI cZ h)) A) ([.ref (h 0), .int a1, .int a2] : List Value).toArray s 0 0 A) (F0 m 16 ls [.int j1]) := by
    intro v16 j1 G16 locs ls hl hP hD hS hK hIv16  hq
    refine lv_istore_n (lv' := [(3, .int j1), (0, .ref (h 0)), (1, .int a1), (2, .int a2)]) hx hb dX1_sense_16 rfl hl (by decide) rfl (fun ls hl => ?_)
    refine lv_iload_n hx hb dX1_sense_17 rfl (lv_at hl 2 rfl) ?_
    refine lv_iconst (v := 2) hx hb dX1_sense_18 (by decide) ?_
    refine lv_icmp_ge (tgt := 28) hx hb dX1_sense_19 (by decide) (fun c25 => ?_) (fun c25 => ?_)
    · refine lv_iload_n hx hb dX1_sense_28 rfl (lv_at hl 2 rfl) ?_
      refine lv_iconst (v := 4) hx hb dX1_sense_29 (by decide) ?_
      refine lv_icmp_ge (tgt := 38) hx hb dX1_sense_30 (by decide) (fun c26 => ?_) (fun c26 => ?_)
      · refine lv_iload_n hx hb dX1_sense_38 rfl (lv_at hl 2 rfl) ?_
        refine lv_iconst (v := 4) hx hb dX1_sense_39 (by decide) ?_
        refine lv_icmp_ne (tgt := 49) hx hb dX1_sense_40 (by decide) (fun c27 => ?_) (fun c27 => ?_)
        · refine lv_iconst (v := 1) hx hb dX1_sense_49 (by decide) ?_
          exact J50 v16 1 j1 G16 _ _ (lv_sub hl [1, 2, 3, 0] rfl) hP hD hS hK hIv16  (by rw [hq]; unfold pX1_sense_16; first | (rw [if_pos c25, if_pos c26, if_neg c27]; done) | (rw [if_pos c25, if_pos c26, if_neg c27]; rfl))
        · refine lv_sipush (v := 600) hx hb dX1_sense_43 (by decide) ?_
          refine lv_goto (tgt := 50) hx hb dX1_sense_46 (by decide) ?_
          exact J50 v16 600 j1 G16 _ _ (lv_sub hl [1, 2, 3, 0] rfl) hP hD hS hK hIv16  (by rw [hq]; unfold pX1_sense_16; first | (rw [if_pos c25, if_pos c26, if_pos c27]; done) | (rw [if_pos c25, if_pos c26, if_pos c27]; rfl))
      · refine lv_ldc (v := 50000) hx hb hown (hts (.constant RX1 118 (50000)) (by decide +kernel)) dX1_sense_33 ?_
        refine lv_goto (tgt := 50) hx hb dX1_sense_35 (by decide) ?_
        exact J50 v16 50000 j1 G16 _ _ (lv_sub hl [1, 2, 3, 0] rfl) hP hD hS hK hIv16  (by rw [hq]; unfold pX1_sense_16; first | (rw [if_pos c25, if_neg c26]; done) | (rw [if_pos c25, if_neg c26]; rfl))
    · refine lv_sipush (v := 1000) hx hb dX1_sense_22 (by decide) ?_
      refine lv_goto (tgt := 50) hx hb dX1_sense_25 (by decide) ?_
      exact J50 v16 1000 j1 G16 _ _ (lv_sub hl [1, 2, 3, 0] rfl) hP hD hS hK hIv16  (by rw [hq]; unfold pX1_sense_16; first | (rw [if_neg c25]; done) | (rw [if_neg c25]; rfl))
  refine lv_iload_n hx hb dX1_sense_0 rfl (lv_at hl 1 rfl) ?_
  refine lv_if_eq (tgt := 9) hx hb dX1_sense_1 (by decide) (fun c28 => ?_) (fun c28 => ?_)
  · refine lv_sipush (v := (-1000)) hx hb dX1_sense_9 (by decide) ?_
    refine lv_goto (tgt := 16) hx hb dX1_sense_12 (by decide) ?_
    exact J16 u (-1000) s.heap _ _ (lv_sub hl [0, 1, 2] rfl) hP hD hS hK hI  (by unfold pX1_sense; first | (rw [if_pos c28]; done) | (rw [if_pos c28]; rfl))
  · refine lv_iload_n hx hb dX1_sense_4 rfl (lv_at hl 1 rfl) ?_
    refine lv_iconst (v := 1) hx hb dX1_sense_5 (by decide) ?_
    refine lv_icmp_ne (tgt := 15) hx hb dX1_sense_6 (by decide) (fun c29 => ?_) (fun c29 => ?_)
    · refine lv_iconst (v := 0) hx hb dX1_sense_15 (by decide) ?_
      exact J16 u 0 s.heap _ _ (lv_sub hl [0, 1, 2] rfl) hP hD hS hK hI  (by unfold pX1_sense; first | (rw [if_neg c28, if_neg c29]; done) | (rw [if_neg c28, if_neg c29]; rfl))
    · refine lv_sipush (v := (-1000)) hx hb dX1_sense_9 (by decide) ?_
      refine lv_goto (tgt := 16) hx hb dX1_sense_12 (by decide) ?_
      exact J16 u (-1000) s.heap _ _ (lv_sub hl [0, 1, 2] rfl) hP hD hS hK hI  (by unfold pX1_sense; first | (rw [if_neg c28, if_pos c29]; done) | (rw [if_neg c28, if_pos c29]; rfl))
def pX1_channel_69 (u : MS) (a1 a2 : Int32) (j1 : Int32) : Int32 × MS := ((pX1_settle (md_ u j1)).1, (pX1_settle (md_ u j1)).2)
def pX1_channel_44 (u : MS) (a1 a2 : Int32) (j1 : Int32) : Int32 × MS := if a1 = 1 then (if a2 = 0 then (pX1_channel_69 (mb_ u j1) a1 a2 1) else (pX1_channel_69 (mb_ u j1) a1 a2 0)) else (pX1_channel_69 (mb_ u j1) a1 a2 (md (mb_ u j1)))
def pX1_channel (u : MS) (a1 a2 : Int32) : Int32 × MS := if a1 = 0 then (if a1 = 0 then (if a2 = 0 then (pX1_channel_44 ((pX1_good u 1).2) a1 a2 1) else (pX1_channel_44 ((pX1_good u 1).2) a1 a2 0)) else (pX1_channel_44 ((pX1_good u 1).2) a1 a2 (mb ((pX1_good u 1).2)))) else (if a1 = 1 then (if a1 = 0 then (if a2 = 0 then (pX1_channel_44 ((pX1_good u 1).2) a1 a2 1) else (pX1_channel_44 ((pX1_good u 1).2) a1 a2 0)) else (pX1_channel_44 ((pX1_good u 1).2) a1 a2 (mb ((pX1_good u 1).2)))) else ((0, (pX1_good u 0).2)))
set_option maxHeartbeats 4000000 in
set_option maxRecDepth 100000 in
theorem kX1_channel (l : Launch) (D : va_G) (cI cZ : ClassId) (h : Nat → Nat) (sz : Nat) (u : MS) (a1 a2 : Int32) (n : Nat) (hI : InvM n u) (hn : n ≤ 1999000) (hb2 : bz a2) : Mi l yX1_channel wsX1_channel { frames := 5, cells := 0, slots := 0, locals := 110 } D (tyl cI cZ) (wM cI cZ h) sz u [.ref (h 0), .int a1, .int a2] (fun r u9 => (r, u9) = pX1_channel u a1 a2 ∧ InvM (n + 50) u9) := by
  refine Met.ofW (cc := cX1_channel) (maxL := 3) (ret := (some .int)) (by decide) rfl ?_
  intro p e s m args below meth c s₁ B hml hv
  obtain ⟨rfl, hsz, hP, hK, hD0⟩ := hv
  have hx := B.exec
  have hb := B.bytes
  have hr := B.returns
  have hts := atoms_spec (ws := wsX1_channel) B.pre
  have hin : ∀ w ∈ wsX10, w ∈ wsX1_channel := fun w h9 => List.mem_cons_of_mem _ (List.mem_append_right _ h9)
  have hown : s.vm.findClass RX1 = some m.cls := findClass_of_methodNamed B.named
  have hlocks := B.notSynchronized
  subst hsz
  have hD : va_D (va_A (wM cI cZ h u) s.heap.size) (wM cI cZ h u) := hD0.self (sz := s.heap.size)
  have hA : ∀ q : Nat, s.heap.size ≤ q → va_A (wM cI cZ h u) s.heap.size q := fun q h9 => Or.inr h9
  have hS : va_S (va_A (wM cI cZ h u) s.heap.size) s.heap s.heap [] := va_S.rf
  have hl := lv_entry ([.ref (h 0), .int a1, .int a2]) (n := 3) (Nat.le_of_ble_eq_true rfl)
  rw [lg_entry_eq]
  generalize (lg_sl ([.ref (h 0), .int a1, .int a2]) ++ List.replicate (3 - (lg_sl ([.ref (h 0), .int a1, .int a2])).length) Slot.unset).toArray = ls at hl ⊢
  have hl : lv_has ls 3 [(0, .ref (h 0)), (1, .int a1), (2, .int a2)] := hl
  generalize va_A (wM cI cZ h u) s.heap.size = A at hD hA hS ⊢
  have J69 : ∀ (v69 : MS) (j1 : Int32) (G69 : Heap) (locs : List Loc) (ls : Array Slot), lv_has ls 3 [(0, .ref (h 0)), (1, .int a1), (2, .int a2)] → va_P D vwCl (wM cI cZ h v69) G69 → va_D A (wM cI cZ h v69) → va_S A s.heap G69 locs → va_K D vwCl (tyl cI cZ) s → InvM n v69 → bz j1 → pX1_channel u a1 a2 = pX1_channel_69 v69 a1 a2 j1 → W p l e (headSpec wsX1_channel { frames := 5, cells := 0, slots := 0, locals := 110 }).room s m ([.ref (h 0), .int a1, .int a2] : List Value).toArray below meth c G69 locs 0 0 (MQ below (va_Qi (fun r u9 => (r, u9) = pX1_channel u a1 a2 ∧ InvM (n + 50) u9) (BW D (tyl cI cZ) A (wM cI cZ h)) A) ([.ref (h 0), .int a1, .int a2] : List Value).toArray s 0 0 A) (F0 m 69 ls [.int j1, .ref (h 0)]) := by
    intro v69 j1 G69 locs ls hl hP hD hS hK hIv69 hzj1 hq
    refine va_put (D := D) (ci := 1) (v := .int j1) (ty := .boolean) (C := RX1) (T := TX1) (N := 15) hx hb hts hin tyX1 tyX1_ok nmX1 hown hK hP hD hS 0 rfl rfl 8 (by decide) (hts (.fieldLink RX1 68 "ModeDeskModel" "bad1" "Z") (by decide +kernel)) (fun _ h9 => h9) rfl (by decide +kernel) (bz_n hzj1) (bz_f hzj1) (Nat.le_of_ble_eq_true rfl) dX1_channel_69 (fun H2 locs hP hD hS => ?_)
    obtain ⟨u1, eu1⟩ : ∃ y : MS, y = md_ v69 j1 := ⟨_, rfl⟩
    have hP : va_P D vwCl (wM cI cZ h u1) H2 := by rw [eu1]; exact hP
    have hD : va_D A (wM cI cZ h u1) := by rw [eu1]; exact hD
    have hIu1 : InvM n u1 := by rw [eu1]; exact InvM.sd hIv69 hzj1
    refine lv_aload_n hx hb dX1_channel_72 rfl (lv_at hl 0 rfl) ?_
    have hFc := va_free (wc := wM cI cZ h u1) hD hS hA [0, 1, 2] rfl
    refine va_calli (va_runV (As := []) (rest := []) ⟨hx, hb, hml, hown, hts⟩ (kX1_settle l D cI cZ h H2.size u1  n hIu1 (by omega)) (cwV 0 hts gX1_channel_X1_settle rfl rfl rfl (by decide +kernel) ⟨Nat.le_of_ble_eq_true rfl, Nat.le_of_ble_eq_true rfl⟩) ⟨bl_W, va_recv hK hP (ci := 1) (q0 := 0) rfl rfl, pr_W hP hK hD⟩ rfl rfl hl.1 rfl (lv_room (Nat.le_of_ble_eq_true rfl)) dX1_channel_73 ⟨Nat.zero_le _, Nat.zero_le _⟩) hS (fun q _ h9 => hFc q h9) hFc (fun r3 u5 t H4 locs ht hvm hw hB hz1 hk1 hS => ?_)
    obtain ⟨hP, hK, hD⟩ := af_W hB ht hvm hFc
    clear hFc hB
    obtain ⟨e9, hIu5⟩ := hw
    have er3 : r3 = (pX1_settle u1).1 := congrArg Prod.fst e9
    have eu5 : u5 = (pX1_settle u1).2 := congrArg Prod.snd e9
    clear e9
    have hq1 : pX1_channel u a1 a2 = (r3, u5) := (by subst eu5; subst er3; subst eu1; rw [hq]; rfl)
    exact W.iret (v := r3) hx hb hr (fun t ht hW => ⟨⟨r3, u5, rfl, ⟨hq1.symm, (hIu5.mono (by omega))⟩, by rw [ht]; exact hP, va_K.moved hW.alike hK, hD⟩, hS.F ht⟩) hS.2.2 dX1_channel_76
  have J44 : ∀ (v44 : MS) (j1 : Int32) (G44 : Heap) (locs : List Loc) (ls : Array Slot), lv_has ls 3 [(0, .ref (h 0)), (1, .int a1), (2, .int a2)] → va_P D vwCl (wM cI cZ h v44) G44 → va_D A (wM cI cZ h v44) → va_S A s.heap G44 locs → va_K D vwCl (tyl cI cZ) s → InvM n v44 → bz j1 → pX1_channel u a1 a2 = pX1_channel_44 v44 a1 a2 j1 → W p l e (headSpec wsX1_channel { frames := 5, cells := 0, slots := 0, locals := 110 }).room s m ([.ref (h 0), .int a1, .int a2] : List Value).toArray below meth c G44 locs 0 0 (MQ below (va_Qi (fun r u9 => (r, u9) = pX1_channel u a1 a2 ∧ InvM (n + 50) u9) (BW D (tyl cI cZ) A (wM cI cZ h)) A) ([.ref (h 0), .int a1, .int a2] : List Value).toArray s 0 0 A) (F0 m 44 ls [.int j1, .ref (h 0)]) := by
    intro v44 j1 G44 locs ls hl hP hD hS hK hIv44 hzj1 hq
    refine va_put (D := D) (ci := 1) (v := .int j1) (ty := .boolean) (C := RX1) (T := TX1) (N := 15) hx hb hts hin tyX1 tyX1_ok nmX1 hown hK hP hD hS 0 rfl rfl 7 (by decide) (hts (.fieldLink RX1 65 "ModeDeskModel" "bad0" "Z") (by decide +kernel)) (fun _ h9 => h9) rfl (by decide +kernel) (bz_n hzj1) (bz_f hzj1) (Nat.le_of_ble_eq_true rfl) dX1_channel_44 (fun H7 locs hP hD hS => ?_)
    obtain ⟨u6, eu6⟩ : ∃ y : MS, y = mb_ v44 j1 := ⟨_, rfl⟩
    have hP : va_P D vwCl (wM cI cZ h u6) H7 := by rw [eu6]; exact hP
    have hD : va_D A (wM cI cZ h u6) := by rw [eu6]; exact hD
    have hIu6 : InvM n u6 := by rw [eu6]; exact InvM.sb hIv44 hzj1
    refine lv_aload_n hx hb dX1_channel_47 rfl (lv_at hl 0 rfl) ?_
    refine lv_iload_n hx hb dX1_channel_48 rfl (lv_at hl 1 rfl) ?_
    refine lv_iconst (v := 1) hx hb dX1_channel_49 (by decide) ?_
    refine lv_icmp_ne (tgt := 65) hx hb dX1_channel_50 (by decide) (fun c8 => ?_) (fun c8 => ?_)
    · refine lv_aload_n hx hb dX1_channel_65 rfl (lv_at hl 0 rfl) ?_
      refine va_get (D := D) (ci := 1) (v := .int (md u6)) (C := RX1) (T := TX1) (N := 15) hx hb hts hin hown hK hP 0 rfl rfl 8 (by decide) (hts (.fieldLink RX1 68 "ModeDeskModel" "bad1" "Z") (by decide +kernel)) (fun _ h9 => h9) rfl dX1_channel_66 ?_
      exact J69 u6 (md u6) H7 _ _ (lv_sub hl [0, 1, 2] rfl) hP hD hS hK hIu6 hIu6.2.2.2.2.1 (by subst eu6; rw [hq]; unfold pX1_channel_44; first | (rw [if_neg c8]; done) | (rw [if_neg c8]; rfl))
    · refine lv_iload_n hx hb dX1_channel_53 rfl (lv_at hl 2 rfl) ?_
      refine lv_if_ne (tgt := 61) hx hb dX1_channel_54 (by decide) (fun c9 => ?_) (fun c9 => ?_)
      · refine lv_iconst (v := 0) hx hb dX1_channel_61 (by decide) ?_
        refine lv_goto (tgt := 69) hx hb dX1_channel_62 (by decide) ?_
        exact J69 u6 0 H7 _ _ (lv_sub hl [0, 1, 2] rfl) hP hD hS hK hIu6 bz0 (by subst eu6; rw [hq]; unfold pX1_channel_44; first | (rw [if_pos c8, if_neg c9]; done) | (rw [if_pos c8, if_neg c9]; rfl))
      · refine lv_iconst (v := 1) hx hb dX1_channel_57 (by decide) ?_
        refine lv_goto (tgt := 69) hx hb dX1_channel_58 (by decide) ?_
        exact J69 u6 1 H7 _ _ (lv_sub hl [0, 1, 2] rfl) hP hD hS hK hIu6 bz1 (by subst eu6; rw [hq]; unfold pX1_channel_44; first | (rw [if_pos c8, if_pos c9]; done) | (rw [if_pos c8, if_pos c9]; rfl))
  refine lv_aload_n hx hb dX1_channel_0 rfl (lv_at hl 0 rfl) ?_
  refine lv_iload_n hx hb dX1_channel_1 rfl (lv_at hl 1 rfl) ?_
  refine lv_if_eq (tgt := 10) hx hb dX1_channel_2 (by decide) (fun c10 => ?_) (fun c10 => ?_)
  · refine lv_iconst (v := 1) hx hb dX1_channel_10 (by decide) ?_
    refine lv_goto (tgt := 15) hx hb dX1_channel_11 (by decide) ?_
    have hFc := va_free (wc := wM cI cZ h u) hD hS hA [0, 1, 2] rfl
    refine va_calli (va_runV (As := [.int 1]) (rest := []) ⟨hx, hb, hml, hown, hts⟩ (kX1_good l D cI cZ h s.heap.size u 1 n hI (by omega) bz1) (cwV 1 hts gX1_channel_X1_good rfl rfl rfl (by decide +kernel) ⟨Nat.le_of_ble_eq_true rfl, Nat.le_of_ble_eq_true rfl⟩) ⟨bl_W, va_recv hK hP (ci := 1) (q0 := 0) rfl rfl, pr_W hP hK hD⟩ rfl rfl hl.1 rfl (lv_room (Nat.le_of_ble_eq_true rfl)) dX1_channel_15 ⟨Nat.zero_le _, Nat.zero_le _⟩) hS (fun q _ h9 => hFc q h9) hFc (fun r11 u13 t H12 locs ht hvm hw hB hz1 hk1 hS => ?_)
    obtain ⟨hP, hK, hD⟩ := af_W hB ht hvm hFc
    clear hFc hB
    obtain ⟨e9, hIu13, br11⟩ := hw
    have er11 : r11 = (pX1_good u 1).1 := congrArg Prod.fst e9
    have eu13 : u13 = (pX1_good u 1).2 := congrArg Prod.snd e9
    clear e9
    have e9 : r11 = 1 := er11.trans (by rfl)
    clear er11
    subst e9
    refine lv_if_ne (tgt := 23) hx hb dX1_channel_18 (by decide) (fun _ => ?_) (fun c9 => absurd c9 (by decide))
    refine lv_aload_n hx hb dX1_channel_23 rfl (lv_at hl 0 rfl) ?_
    refine lv_iload_n hx hb dX1_channel_24 rfl (lv_at hl 1 rfl) ?_
    refine lv_if_ne (tgt := 40) hx hb dX1_channel_25 (by decide) (fun c14 => ?_) (fun c14 => ?_)
    · refine lv_aload_n hx hb dX1_channel_40 rfl (lv_at hl 0 rfl) ?_
      refine va_get (D := D) (ci := 1) (v := .int (mb u13)) (C := RX1) (T := TX1) (N := 15) hx hb hts hin hown hK hP 0 rfl rfl 7 (by decide) (hts (.fieldLink RX1 65 "ModeDeskModel" "bad0" "Z") (by decide +kernel)) (fun _ h9 => h9) rfl dX1_channel_41 ?_
      exact J44 u13 (mb u13) H12 _ _ (lv_sub hl [0, 1, 2] rfl) hP hD hS hK hIu13 hIu13.2.2.2.1 (by subst eu13; unfold pX1_channel; first | (rw [if_pos c10, if_neg c14]; done) | (rw [if_pos c10, if_neg c14]; rfl))
    · refine lv_iload_n hx hb dX1_channel_28 rfl (lv_at hl 2 rfl) ?_
      refine lv_if_ne (tgt := 36) hx hb dX1_channel_29 (by decide) (fun c15 => ?_) (fun c15 => ?_)
      · refine lv_iconst (v := 0) hx hb dX1_channel_36 (by decide) ?_
        refine lv_goto (tgt := 44) hx hb dX1_channel_37 (by decide) ?_
        exact J44 u13 0 H12 _ _ (lv_sub hl [0, 1, 2] rfl) hP hD hS hK hIu13 bz0 (by subst eu13; unfold pX1_channel; first | (rw [if_pos c10, if_pos c14, if_neg c15]; done) | (rw [if_pos c10, if_pos c14, if_neg c15]; rfl))
      · refine lv_iconst (v := 1) hx hb dX1_channel_32 (by decide) ?_
        refine lv_goto (tgt := 44) hx hb dX1_channel_33 (by decide) ?_
        exact J44 u13 1 H12 _ _ (lv_sub hl [0, 1, 2] rfl) hP hD hS hK hIu13 bz1 (by subst eu13; unfold pX1_channel; first | (rw [if_pos c10, if_pos c14, if_pos c15]; done) | (rw [if_pos c10, if_pos c14, if_pos c15]; rfl))
  · refine lv_iload_n hx hb dX1_channel_5 rfl (lv_at hl 1 rfl) ?_
    refine lv_iconst (v := 1) hx hb dX1_channel_6 (by decide) ?_
    refine lv_icmp_ne (tgt := 14) hx hb dX1_channel_7 (by decide) (fun c16 => ?_) (fun c16 => ?_)
    · refine lv_iconst (v := 0) hx hb dX1_channel_14 (by decide) ?_
      have hFc := va_free (wc := wM cI cZ h u) hD hS hA [0, 1, 2] rfl
      refine va_calli (va_runV (As := [.int 0]) (rest := []) ⟨hx, hb, hml, hown, hts⟩ (kX1_good l D cI cZ h s.heap.size u 0 n hI (by omega) bz0) (cwV 1 hts gX1_channel_X1_good rfl rfl rfl (by decide +kernel) ⟨Nat.le_of_ble_eq_true rfl, Nat.le_of_ble_eq_true rfl⟩) ⟨bl_W, va_recv hK hP (ci := 1) (q0 := 0) rfl rfl, pr_W hP hK hD⟩ rfl rfl hl.1 rfl (lv_room (Nat.le_of_ble_eq_true rfl)) dX1_channel_15 ⟨Nat.zero_le _, Nat.zero_le _⟩) hS (fun q _ h9 => hFc q h9) hFc (fun r17 u19 t H18 locs ht hvm hw hB hz1 hk1 hS => ?_)
      obtain ⟨hP, hK, hD⟩ := af_W hB ht hvm hFc
      clear hFc hB
      obtain ⟨e9, hIu19, br17⟩ := hw
      have er17 : r17 = (pX1_good u 0).1 := congrArg Prod.fst e9
      have eu19 : u19 = (pX1_good u 0).2 := congrArg Prod.snd e9
      clear e9
      have e9 : r17 = 0 := er17.trans (by rfl)
      clear er17
      subst e9
      refine lv_if_ne (tgt := 23) hx hb dX1_channel_18 (by decide) (fun c9 => absurd (by decide) c9) (fun _ => ?_)
      refine lv_iconst (v := 0) hx hb dX1_channel_21 (by decide) ?_
      have hq1 : pX1_channel u a1 a2 = (0, u19) := (by subst eu19; unfold pX1_channel; first | (rw [if_neg c10, if_neg c16]; done) | (rw [if_neg c10, if_neg c16]; rfl))
      exact W.iret (v := 0) hx hb hr (fun t ht hW => ⟨⟨0, u19, rfl, ⟨hq1.symm, (hIu19.mono (by omega))⟩, by rw [ht]; exact hP, va_K.moved hW.alike hK, hD⟩, hS.F ht⟩) hS.2.2 dX1_channel_22
    · refine lv_iconst (v := 1) hx hb dX1_channel_10 (by decide) ?_
      refine lv_goto (tgt := 15) hx hb dX1_channel_11 (by decide) ?_
      have hFc := va_free (wc := wM cI cZ h u) hD hS hA [0, 1, 2] rfl
      refine va_calli (va_runV (As := [.int 1]) (rest := []) ⟨hx, hb, hml, hown, hts⟩ (kX1_good l D cI cZ h s.heap.size u 1 n hI (by omega) bz1) (cwV 1 hts gX1_channel_X1_good rfl rfl rfl (by decide +kernel) ⟨Nat.le_of_ble_eq_true rfl, Nat.le_of_ble_eq_true rfl⟩) ⟨bl_W, va_recv hK hP (ci := 1) (q0 := 0) rfl rfl, pr_W hP hK hD⟩ rfl rfl hl.1 rfl (lv_room (Nat.le_of_ble_eq_true rfl)) dX1_channel_15 ⟨Nat.zero_le _, Nat.zero_le _⟩) hS (fun q _ h9 => hFc q h9) hFc (fun r20 u22 t H21 locs ht hvm hw hB hz1 hk1 hS => ?_)
      obtain ⟨hP, hK, hD⟩ := af_W hB ht hvm hFc
      clear hFc hB
      obtain ⟨e9, hIu22, br20⟩ := hw
      have er20 : r20 = (pX1_good u 1).1 := congrArg Prod.fst e9
      have eu22 : u22 = (pX1_good u 1).2 := congrArg Prod.snd e9
      clear e9
      have e9 : r20 = 1 := er20.trans (by rfl)
      clear er20
      subst e9
      refine lv_if_ne (tgt := 23) hx hb dX1_channel_18 (by decide) (fun _ => ?_) (fun c9 => absurd c9 (by decide))
      refine lv_aload_n hx hb dX1_channel_23 rfl (lv_at hl 0 rfl) ?_
      refine lv_iload_n hx hb dX1_channel_24 rfl (lv_at hl 1 rfl) ?_
      refine lv_if_ne (tgt := 40) hx hb dX1_channel_25 (by decide) (fun c23 => ?_) (fun c23 => ?_)
      · refine lv_aload_n hx hb dX1_channel_40 rfl (lv_at hl 0 rfl) ?_
        refine va_get (D := D) (ci := 1) (v := .int (mb u22)) (C := RX1) (T := TX1) (N := 15) hx hb hts hin hown hK hP 0 rfl rfl 7 (by decide) (hts (.fieldLink RX1 65 "ModeDeskModel" "bad0" "Z") (by decide +kernel)) (fun _ h9 => h9) rfl dX1_channel_41 ?_
        exact J44 u22 (mb u22) H21 _ _ (lv_sub hl [0, 1, 2] rfl) hP hD hS hK hIu22 hIu22.2.2.2.1 (by subst eu22; unfold pX1_channel; first | (rw [if_neg c10, if_pos c16, if_neg c23]; done) | (rw [if_neg c10, if_pos c16, if_neg c23]; rfl))
      · refine lv_iload_n hx hb dX1_channel_28 rfl (lv_at hl 2 rfl) ?_
        refine lv_if_ne (tgt := 36) hx hb dX1_channel_29 (by decide) (fun c24 => ?_) (fun c24 => ?_)
        · refine lv_iconst (v := 0) hx hb dX1_channel_36 (by decide) ?_
          refine lv_goto (tgt := 44) hx hb dX1_channel_37 (by decide) ?_
          exact J44 u22 0 H21 _ _ (lv_sub hl [0, 1, 2] rfl) hP hD hS hK hIu22 bz0 (by subst eu22; unfold pX1_channel; first | (rw [if_neg c10, if_pos c16, if_pos c23, if_neg c24]; done) | (rw [if_neg c10, if_pos c16, if_pos c23, if_neg c24]; rfl))
        · refine lv_iconst (v := 1) hx hb dX1_channel_32 (by decide) ?_
          refine lv_goto (tgt := 44) hx hb dX1_channel_33 (by decide) ?_
          exact J44 u22 1 H21 _ _ (lv_sub hl [0, 1, 2] rfl) hP hD hS hK hIu22 bz1 (by subst eu22; unfold pX1_channel; first | (rw [if_neg c10, if_pos c16, if_pos c23, if_pos c24]; done) | (rw [if_neg c10, if_pos c16, if_pos c23, if_pos c24]; rfl))
def pX1_engage_69 (u : MS) : Int32 × MS := (1, (pX1_settle (me_ u 1)).2)
def pX1_engage_26 (u : MS) : Int32 × MS := if (ml u) = 5 then ((0, u)) else (if (mv u) = 7 then ((0, u)) else (if (mV u (Int32.toNatClampNeg 4)) ≤ 400 then (if (ml u) = 0 then (pX1_engage_69 (pX1_base u 0) ) else (pX1_engage_69 u )) else ((0, u))))
def pX1_engage (u : MS) : Int32 × MS := if (me (mt_ u 0)) = 0 then (if (mb (mt_ u 0)) = 0 then (pX1_engage_26 (mt_ u 0) ) else (if (md (mt_ u 0)) = 0 then (pX1_engage_26 (mt_ u 0) ) else ((0, mt_ u 0)))) else ((0, mt_ u 0))
set_option maxHeartbeats 4000000 in
set_option maxRecDepth 100000 in
theorem kX1_engage (l : Launch) (D : va_G) (cI cZ : ClassId) (h : Nat → Nat) (sz : Nat) (u : MS) (n : Nat) (hI : InvM n u) (hn : n ≤ 1999000) : Mi l yX1_engage wsX1_engage { frames := 5, cells := 0, slots := 0, locals := 110 } D (tyl cI cZ) (wM cI cZ h) sz u [.ref (h 0)] (fun r u9 => (r, u9) = pX1_engage u ∧ InvM (n + 50) u9) := by
  refine Met.ofW (cc := cX1_engage) (maxL := 2) (ret := (some .int)) (by decide) rfl ?_
  intro p e s m args below meth c s₁ B hml hv
  obtain ⟨rfl, hsz, hP, hK, hD0⟩ := hv
  have hx := B.exec
  have hb := B.bytes
  have hr := B.returns
  have hts := atoms_spec (ws := wsX1_engage) B.pre
  have hin : ∀ w ∈ wsX10, w ∈ wsX1_engage := fun w h9 => List.mem_cons_of_mem _ (List.mem_append_right _ h9)
  have hown : s.vm.findClass RX1 = some m.cls := findClass_of_methodNamed B.named
  have hlocks := B.notSynchronized
  subst hsz
  have hD : va_D (va_A (wM cI cZ h u) s.heap.size) (wM cI cZ h u) := hD0.self (sz := s.heap.size)
  have hA : ∀ q : Nat, s.heap.size ≤ q → va_A (wM cI cZ h u) s.heap.size q := fun q h9 => Or.inr h9
  have hS : va_S (va_A (wM cI cZ h u) s.heap.size) s.heap s.heap [] := va_S.rf
  have hl := lv_entry ([.ref (h 0)]) (n := 2) (Nat.le_of_ble_eq_true rfl)
  rw [lg_entry_eq]
  generalize (lg_sl ([.ref (h 0)]) ++ List.replicate (2 - (lg_sl ([.ref (h 0)])).length) Slot.unset).toArray = ls at hl ⊢
  have hl : lv_has ls 2 [(0, .ref (h 0))] := hl
  generalize va_A (wM cI cZ h u) s.heap.size = A at hD hA hS ⊢
  have J69 : ∀ (v69 : MS) (G69 : Heap) (locs : List Loc) (ls : Array Slot), lv_has ls 2 [(0, .ref (h 0))] → va_P D vwCl (wM cI cZ h v69) G69 → va_D A (wM cI cZ h v69) → va_S A s.heap G69 locs → va_K D vwCl (tyl cI cZ) s → InvM (n + 2) v69 → pX1_engage u = pX1_engage_69 v69   → W p l e (headSpec wsX1_engage { frames := 5, cells := 0, slots := 0, locals := 110 }).room s m ([.ref (h 0)] : List Value).toArray below meth c G69 locs 0 0 (MQ below (va_Qi (fun r u9 => (r, u9) = pX1_engage u ∧ InvM (n + 50) u9) (BW D (tyl cI cZ) A (wM cI cZ h)) A) ([.ref (h 0)] : List Value).toArray s 0 0 A) (F0 m 69 ls []) := by
    intro v69  G69 locs ls hl hP hD hS hK hIv69  hq
    refine lv_aload_n hx hb dX1_engage_69 rfl (lv_at hl 0 rfl) ?_
    refine lv_iconst (v := 1) hx hb dX1_engage_70 (by decide) ?_
    refine va_put (D := D) (ci := 1) (v := .int 1) (ty := .boolean) (C := RX1) (T := TX1) (N := 15) hx hb hts hin tyX1 tyX1_ok nmX1 hown hK hP hD hS 0 rfl rfl 5 (by decide) (hts (.fieldLink RX1 62 "ModeDeskModel" "engaged" "Z") (by decide +kernel)) (fun _ h9 => h9) rfl (by decide +kernel) (bz_n bz1) (bz_f bz1) (Nat.le_of_ble_eq_true rfl) dX1_engage_71 (fun H2 locs hP hD hS => ?_)
    obtain ⟨u1, eu1⟩ : ∃ y : MS, y = me_ v69 1 := ⟨_, rfl⟩
    have hP : va_P D vwCl (wM cI cZ h u1) H2 := by rw [eu1]; exact hP
    have hD : va_D A (wM cI cZ h u1) := by rw [eu1]; exact hD
    have hIu1 : InvM (n + 2) u1 := by rw [eu1]; exact InvM.se hIv69 bz1
    refine lv_aload_n hx hb dX1_engage_74 rfl (lv_at hl 0 rfl) ?_
    have hFc := va_free (wc := wM cI cZ h u1) hD hS hA [0, 1, 2] rfl
    refine va_calli (va_runV (As := []) (rest := []) ⟨hx, hb, hml, hown, hts⟩ (kX1_settle l D cI cZ h H2.size u1  (n + 2) hIu1 (by omega)) (cwV 0 hts gX1_engage_X1_settle rfl rfl rfl (by decide +kernel) ⟨Nat.le_of_ble_eq_true rfl, Nat.le_of_ble_eq_true rfl⟩) ⟨bl_W, va_recv hK hP (ci := 1) (q0 := 0) rfl rfl, pr_W hP hK hD⟩ rfl rfl hl.1 rfl (lv_room (Nat.le_of_ble_eq_true rfl)) dX1_engage_75 ⟨Nat.zero_le _, Nat.zero_le _⟩) hS (fun q _ h9 => hFc q h9) hFc (fun r3 u5 t H4 locs ht hvm hw hB hz1 hk1 hS => ?_)
    obtain ⟨hP, hK, hD⟩ := af_W hB ht hvm hFc
    clear hFc hB
    obtain ⟨e9, hIu5⟩ := hw
    have er3 : r3 = (pX1_settle u1).1 := congrArg Prod.fst e9
    have eu5 : u5 = (pX1_settle u1).2 := congrArg Prod.snd e9
    clear e9
    have hIu5 : InvM (n + 42) u5 := hIu5.mono (by omega)
    refine lv_istore_n (lv' := [(1, .int r3), (0, .ref (h 0))]) hx hb dX1_engage_78 rfl hl (by decide) rfl (fun ls hl => ?_)
    refine lv_iconst (v := 1) hx hb dX1_engage_79 (by decide) ?_
    have hq1 : pX1_engage u = (1, u5) := (by subst eu5; subst er3; subst eu1; rw [hq]; rfl)
    exact W.iret (v := 1) hx hb hr (fun t ht hW => ⟨⟨1, u5, rfl, ⟨hq1.symm, (hIu5.mono (by omega))⟩, by rw [ht]; exact hP, va_K.moved hW.alike hK, hD⟩, hS.F ht⟩) hS.2.2 dX1_engage_80
  have J26 : ∀ (v26 : MS) (G26 : Heap) (locs : List Loc) (ls : Array Slot), lv_has ls 2 [(0, .ref (h 0))] → va_P D vwCl (wM cI cZ h v26) G26 → va_D A (wM cI cZ h v26) → va_S A s.heap G26 locs → va_K D vwCl (tyl cI cZ) s → InvM n v26 → pX1_engage u = pX1_engage_26 v26   → W p l e (headSpec wsX1_engage { frames := 5, cells := 0, slots := 0, locals := 110 }).room s m ([.ref (h 0)] : List Value).toArray below meth c G26 locs 0 0 (MQ below (va_Qi (fun r u9 => (r, u9) = pX1_engage u ∧ InvM (n + 50) u9) (BW D (tyl cI cZ) A (wM cI cZ h)) A) ([.ref (h 0)] : List Value).toArray s 0 0 A) (F0 m 26 ls []) := by
    intro v26  G26 locs ls hl hP hD hS hK hIv26  hq
    refine lv_aload_n hx hb dX1_engage_26 rfl (lv_at hl 0 rfl) ?_
    refine va_get (D := D) (ci := 1) (v := .int (ml v26)) (C := RX1) (T := TX1) (N := 15) hx hb hts hin hown hK hP 0 rfl rfl 1 (by decide) (hts (.fieldLink RX1 26 "ModeDeskModel" "lateral" "I") (by decide +kernel)) (fun _ h9 => h9) rfl dX1_engage_27 ?_
    refine lv_iconst (v := 5) hx hb dX1_engage_30 (by decide) ?_
    refine lv_icmp_eq (tgt := 55) hx hb dX1_engage_31 (by decide) (fun c6 => ?_) (fun c6 => ?_)
    · refine lv_iconst (v := 0) hx hb dX1_engage_55 (by decide) ?_
      have hq1 : pX1_engage u = (0, v26) := (by rw [hq]; unfold pX1_engage_26; first | (rw [if_pos c6]; done) | (rw [if_pos c6]; rfl))
      exact W.iret (v := 0) hx hb hr (fun t ht hW => ⟨⟨0, v26, rfl, ⟨hq1.symm, (hIv26.mono (by omega))⟩, by rw [ht]; exact hP, va_K.moved hW.alike hK, hD⟩, hS.F ht⟩) hS.2.2 dX1_engage_56
    · refine lv_aload_n hx hb dX1_engage_34 rfl (lv_at hl 0 rfl) ?_
      refine va_get (D := D) (ci := 1) (v := .int (mv v26)) (C := RX1) (T := TX1) (N := 15) hx hb hts hin hown hK hP 0 rfl rfl 2 (by decide) (hts (.fieldLink RX1 36 "ModeDeskModel" "vertical" "I") (by decide +kernel)) (fun _ h9 => h9) rfl dX1_engage_35 ?_
      refine lv_bipush (v := 7) hx hb dX1_engage_38 (by decide) ?_
      refine lv_icmp_eq (tgt := 55) hx hb dX1_engage_40 (by decide) (fun c7 => ?_) (fun c7 => ?_)
      · refine lv_iconst (v := 0) hx hb dX1_engage_55 (by decide) ?_
        have hq1 : pX1_engage u = (0, v26) := (by rw [hq]; unfold pX1_engage_26; first | (rw [if_neg c6, if_pos c7]; done) | (rw [if_neg c6, if_pos c7]; rfl))
        exact W.iret (v := 0) hx hb hr (fun t ht hW => ⟨⟨0, v26, rfl, ⟨hq1.symm, (hIv26.mono (by omega))⟩, by rw [ht]; exact hP, va_K.moved hW.alike hK, hD⟩, hS.F ht⟩) hS.2.2 dX1_engage_56
      · refine lv_aload_n hx hb dX1_engage_43 rfl (lv_at hl 0 rfl) ?_
        refine va_get (D := D) (ci := 1) (v := .ref (h 1)) (C := RX1) (T := TX1) (N := 15) hx hb hts hin hown hK hP 0 rfl rfl 10 (by decide) (hts (.fieldLink RX1 7 "ModeDeskModel" "values" "[I") (by decide +kernel)) (fun _ h9 => h9) rfl dX1_engage_44 ?_
        refine lv_iconst (v := 4) hx hb dX1_engage_47 (by decide) ?_
        refine va_iald hx hb hK hP 1 0 rfl rfl (vi_c (by decide)) dX1_engage_48 ?_
        refine lv_sipush (v := 400) hx hb dX1_engage_49 (by decide) ?_
        refine lv_icmp_le (tgt := 57) hx hb dX1_engage_52 (by decide) (fun c8 => ?_) (fun c8 => ?_)
        · refine lv_aload_n hx hb dX1_engage_57 rfl (lv_at hl 0 rfl) ?_
          refine va_get (D := D) (ci := 1) (v := .int (ml v26)) (C := RX1) (T := TX1) (N := 15) hx hb hts hin hown hK hP 0 rfl rfl 1 (by decide) (hts (.fieldLink RX1 26 "ModeDeskModel" "lateral" "I") (by decide +kernel)) (fun _ h9 => h9) rfl dX1_engage_58 ?_
          refine lv_if_ne (tgt := 69) hx hb dX1_engage_61 (by decide) (fun c9 => ?_) (fun c9 => ?_)
          · exact J69 v26  G26 _ _ (lv_sub hl [0] rfl) hP hD hS hK (hIv26.mono (by omega))  (by rw [hq]; unfold pX1_engage_26; first | (rw [if_neg c6, if_neg c7, if_pos c8, if_neg c9]; done) | (rw [if_neg c6, if_neg c7, if_pos c8, if_neg c9]; rfl))
          · refine lv_aload_n hx hb dX1_engage_64 rfl (lv_at hl 0 rfl) ?_
            refine lv_iconst (v := 0) hx hb dX1_engage_65 (by decide) ?_
            have hFc := va_free (wc := wM cI cZ h v26) hD hS hA [0, 1, 2] rfl
            refine va_callv (va_runV (As := [.int 0]) (rest := []) ⟨hx, hb, hml, hown, hts⟩ (kX1_base l D cI cZ h G26.size v26 0 n hIv26 (by omega)) (cwV 1 hts gX1_engage_X1_base rfl rfl rfl (by decide +kernel) ⟨Nat.le_of_ble_eq_true rfl, Nat.le_of_ble_eq_true rfl⟩) ⟨bl_W, va_recv hK hP (ci := 1) (q0 := 0) rfl rfl, pr_W hP hK hD⟩ rfl rfl hl.1 rfl (lv_room (Nat.le_of_ble_eq_true rfl)) dX1_engage_66 ⟨Nat.zero_le _, Nat.zero_le _⟩) hS (fun q _ h9 => hFc q h9) hFc (fun u12 t H11 locs ht hvm hw hB hz1 hk1 hS => ?_)
            obtain ⟨hP, hK, hD⟩ := af_W hB ht hvm hFc
            clear hFc hB
            obtain ⟨eu12, hIu12⟩ := hw
            exact J69 u12  H11 _ _ (lv_sub hl [0] rfl) hP hD hS hK hIu12  (by subst eu12; rw [hq]; unfold pX1_engage_26; first | (rw [if_neg c6, if_neg c7, if_pos c8, if_pos c9]; done) | (rw [if_neg c6, if_neg c7, if_pos c8, if_pos c9]; rfl))
        · refine lv_iconst (v := 0) hx hb dX1_engage_55 (by decide) ?_
          have hq1 : pX1_engage u = (0, v26) := (by rw [hq]; unfold pX1_engage_26; first | (rw [if_neg c6, if_neg c7, if_neg c8]; done) | (rw [if_neg c6, if_neg c7, if_neg c8]; rfl))
          exact W.iret (v := 0) hx hb hr (fun t ht hW => ⟨⟨0, v26, rfl, ⟨hq1.symm, (hIv26.mono (by omega))⟩, by rw [ht]; exact hP, va_K.moved hW.alike hK, hD⟩, hS.F ht⟩) hS.2.2 dX1_engage_56
  refine lv_aload_n hx hb dX1_engage_0 rfl (lv_at hl 0 rfl) ?_
  refine lv_iconst (v := 0) hx hb dX1_engage_1 (by decide) ?_
  refine va_put (D := D) (ci := 1) (v := .int 0) (ty := .int) (C := RX1) (T := TX1) (N := 15) hx hb hts hin tyX1 tyX1_ok nmX1 hown hK hP hD hS 0 rfl rfl 0 (by decide) (hts (.fieldLink RX1 20 "ModeDeskModel" "thrown" "I") (by decide +kernel)) (fun _ h9 => h9) rfl (by decide +kernel) rfl rfl (Nat.le_of_ble_eq_true rfl) dX1_engage_2 (fun H14 locs hP hD hS => ?_)
  obtain ⟨u13, eu13⟩ : ∃ y : MS, y = mt_ u 0 := ⟨_, rfl⟩
  have hP : va_P D vwCl (wM cI cZ h u13) H14 := by rw [eu13]; exact hP
  have hD : va_D A (wM cI cZ h u13) := by rw [eu13]; exact hD
  have hIu13 : InvM n u13 := by rw [eu13]; exact InvM.st hI _
  refine lv_aload_n hx hb dX1_engage_5 rfl (lv_at hl 0 rfl) ?_
  refine va_get (D := D) (ci := 1) (v := .int (me u13)) (C := RX1) (T := TX1) (N := 15) hx hb hts hin hown hK hP 0 rfl rfl 5 (by decide) (hts (.fieldLink RX1 62 "ModeDeskModel" "engaged" "Z") (by decide +kernel)) (fun _ h9 => h9) rfl dX1_engage_6 ?_
  refine lv_if_ne (tgt := 55) hx hb dX1_engage_9 (by decide) (fun c15 => ?_) (fun c15 => ?_)
  · refine lv_iconst (v := 0) hx hb dX1_engage_55 (by decide) ?_
    have hq1 : pX1_engage u = (0, u13) := (by subst eu13; unfold pX1_engage; first | (rw [if_neg c15]; done) | (rw [if_neg c15]; rfl))
    exact W.iret (v := 0) hx hb hr (fun t ht hW => ⟨⟨0, u13, rfl, ⟨hq1.symm, (hIu13.mono (by omega))⟩, by rw [ht]; exact hP, va_K.moved hW.alike hK, hD⟩, hS.F ht⟩) hS.2.2 dX1_engage_56
  · refine lv_aload_n hx hb dX1_engage_12 rfl (lv_at hl 0 rfl) ?_
    refine va_get (D := D) (ci := 1) (v := .int (mb u13)) (C := RX1) (T := TX1) (N := 15) hx hb hts hin hown hK hP 0 rfl rfl 7 (by decide) (hts (.fieldLink RX1 65 "ModeDeskModel" "bad0" "Z") (by decide +kernel)) (fun _ h9 => h9) rfl dX1_engage_13 ?_
    refine lv_if_eq (tgt := 26) hx hb dX1_engage_16 (by decide) (fun c16 => ?_) (fun c16 => ?_)
    · exact J26 u13  H14 _ _ (lv_sub hl [0] rfl) hP hD hS hK hIu13  (by subst eu13; unfold pX1_engage; first | (rw [if_pos c15, if_pos c16]; done) | (rw [if_pos c15, if_pos c16]; rfl))
    · refine lv_aload_n hx hb dX1_engage_19 rfl (lv_at hl 0 rfl) ?_
      refine va_get (D := D) (ci := 1) (v := .int (md u13)) (C := RX1) (T := TX1) (N := 15) hx hb hts hin hown hK hP 0 rfl rfl 8 (by decide) (hts (.fieldLink RX1 68 "ModeDeskModel" "bad1" "Z") (by decide +kernel)) (fun _ h9 => h9) rfl dX1_engage_20 ?_
      refine lv_if_ne (tgt := 55) hx hb dX1_engage_23 (by decide) (fun c17 => ?_) (fun c17 => ?_)
      · refine lv_iconst (v := 0) hx hb dX1_engage_55 (by decide) ?_
        have hq1 : pX1_engage u = (0, u13) := (by subst eu13; unfold pX1_engage; first | (rw [if_pos c15, if_neg c16, if_neg c17]; done) | (rw [if_pos c15, if_neg c16, if_neg c17]; rfl))
        exact W.iret (v := 0) hx hb hr (fun t ht hW => ⟨⟨0, u13, rfl, ⟨hq1.symm, (hIu13.mono (by omega))⟩, by rw [ht]; exact hP, va_K.moved hW.alike hK, hD⟩, hS.F ht⟩) hS.2.2 dX1_engage_56
      · exact J26 u13  H14 _ _ (lv_sub hl [0] rfl) hP hD hS hK hIu13  (by subst eu13; unfold pX1_engage; first | (rw [if_pos c15, if_neg c16, if_pos c17]; done) | (rw [if_pos c15, if_neg c16, if_pos c17]; rfl))
