def pX1_disconnect_28 (u : MS) (j1 : Int32) : Int32 × MS := (j1, me_ (mw_ u (me u)) 0)
def pX1_disconnect (u : MS) : Int32 × MS := if (me (mt_ u 0)) = 0 then (if (mw (mt_ u 0)) = 0 then (pX1_disconnect_28 (mt_ u 0) 0) else (pX1_disconnect_28 (mt_ u 0) 1)) else (pX1_disconnect_28 (mt_ u 0) 2)
set_option maxHeartbeats 4000000 in
set_option maxRecDepth 100000 in
theorem kX1_disconnect (l : Launch) (D : va_G) (cI cZ : ClassId) (h : Nat → Nat) (sz : Nat) (u : MS) (n : Nat) (hI : InvM n u) (hn : n ≤ 1999000) : Mi l yX1_disconnect wsX1_disconnect { frames := 0, cells := 0, slots := 0, locals := 0 } D (tyl cI cZ) (wM cI cZ h) sz u [.ref (h 0)] (fun r u9 => (r, u9) = pX1_disconnect u ∧ InvM n u9) := by
  refine Met.ofW (cc := cX1_disconnect) (maxL := 2) (ret := (some .int)) (by decide) rfl ?_
  intro p e s m args below meth c s₁ B hml hv
  obtain ⟨rfl, hsz, hP, hK, hD0⟩ := hv
  have hx := B.exec
  have hb := B.bytes
  have hr := B.returns
  have hts := atoms_spec (ws := wsX1_disconnect) B.pre
  have hin : ∀ w ∈ wsX10, w ∈ wsX1_disconnect := fun w h9 => List.mem_cons_of_mem _ (List.mem_append_right _ h9)
  have hown : s.vm.findClass RX1 = some m.cls := findClass_of_methodNamed B.named
  have hlocks := B.notSynchronized
  subst hsz
  have hD : va_D (va_A (wM cI cZ h u) s.heap.size) (wM cI cZ h u) := hD0.self (sz := s.heap.size)
  have hA : ∀ q : Nat, s.heap.size ≤ q → va_A (wM cI cZ h u) s.heap.size q := fun q h9 => Or.inr h9
  have hS : va_S (va_A (wM cI cZ h u) s.heap.size) s.heap s.heap [] := va_S.rf
  have hl := lv_entry ([.ref (h 0)]) (n := 2) (Nat.le_of_ble_eq_true rfl)
  rw [lg_entry_eq]
  generalize (lg_sl ([.ref (h 0)]) ++ List.replicate (2 - (lg_sl ([.ref (h 0)])).length) Slot.unset).toArray = ls at hl ⊢
  have hl : lv_has ls 2 [(0, .ref (h 0))] := hl
  generalize va_A (wM cI cZ h u) s.heap.size = A at hD hA hS ⊢
  have J28 : ∀ (v28 : MS) (j1 : Int32) (G28 : Heap) (locs : List Loc) (ls : Array Slot), lv_has ls 2 [(0, .ref (h 0))] → va_P D vwCl (wM cI cZ h v28) G28 → va_D A (wM cI cZ h v28) → va_S A s.heap G28 locs → va_K D vwCl (tyl cI cZ) s → InvM n v28 → pX1_disconnect u = pX1_disconnect_28 v28  j1 → W p l e (headSpec wsX1_disconnect { frames := 0, cells := 0, slots := 0, locals := 0 }).room s m ([.ref (h 0)] : List Value).toArray below meth c G28 locs 0 0 (MQ below (va_Qi (fun r u9 => (r, u9) = pX1_disconnect u ∧ InvM n u9) (BW D (tyl cI cZ) A (wM cI cZ h)) A) ([.ref (h 0)] : List Value).toArray s 0 0 A) (F0 m 28 ls [.int j1]) := by
    intro v28 j1 G28 locs ls hl hP hD hS hK hIv28  hq
    refine lv_istore_n (lv' := [(1, .int j1), (0, .ref (h 0))]) hx hb dX1_disconnect_28 rfl hl (by decide) rfl (fun ls hl => ?_)
    refine lv_aload_n hx hb dX1_disconnect_29 rfl (lv_at hl 1 rfl) ?_
    refine lv_aload_n hx hb dX1_disconnect_30 rfl (lv_at hl 1 rfl) ?_
    refine va_get (D := D) (ci := 1) (v := .int (me v28)) (C := RX1) (T := TX1) (N := 15) hx hb hts hin hown hK hP 0 rfl rfl 5 (by decide) (hts (.fieldLink RX1 62 "ModeDeskModel" "engaged" "Z") (by decide +kernel)) (fun _ h9 => h9) rfl dX1_disconnect_31 ?_
    refine va_put (D := D) (ci := 1) (v := .int (me v28)) (ty := .boolean) (C := RX1) (T := TX1) (N := 15) hx hb hts hin tyX1 tyX1_ok nmX1 hown hK hP hD hS 0 rfl rfl 6 (by decide) (hts (.fieldLink RX1 59 "ModeDeskModel" "warning" "Z") (by decide +kernel)) (fun _ h9 => h9) rfl (by decide +kernel) (bz_n hIv28.2.1) (bz_f hIv28.2.1) (Nat.le_of_ble_eq_true rfl) dX1_disconnect_34 (fun H2 locs hP hD hS => ?_)
    obtain ⟨u1, eu1⟩ : ∃ y : MS, y = mw_ v28 (me v28) := ⟨_, rfl⟩
    have hP : va_P D vwCl (wM cI cZ h u1) H2 := by rw [eu1]; exact hP
    have hD : va_D A (wM cI cZ h u1) := by rw [eu1]; exact hD
    have hIu1 : InvM n u1 := by rw [eu1]; exact InvM.sw hIv28 hIv28.2.1
    refine lv_aload_n hx hb dX1_disconnect_37 rfl (lv_at hl 1 rfl) ?_
    refine lv_iconst (v := 0) hx hb dX1_disconnect_38 (by decide) ?_
    refine va_put (D := D) (ci := 1) (v := .int 0) (ty := .boolean) (C := RX1) (T := TX1) (N := 15) hx hb hts hin tyX1 tyX1_ok nmX1 hown hK hP hD hS 0 rfl rfl 5 (by decide) (hts (.fieldLink RX1 62 "ModeDeskModel" "engaged" "Z") (by decide +kernel)) (fun _ h9 => h9) rfl (by decide +kernel) (bz_n bz0) (bz_f bz0) (Nat.le_of_ble_eq_true rfl) dX1_disconnect_39 (fun H4 locs hP hD hS => ?_)
    obtain ⟨u3, eu3⟩ : ∃ y : MS, y = me_ u1 0 := ⟨_, rfl⟩
    have hP : va_P D vwCl (wM cI cZ h u3) H4 := by rw [eu3]; exact hP
    have hD : va_D A (wM cI cZ h u3) := by rw [eu3]; exact hD
    have hIu3 : InvM n u3 := by rw [eu3]; exact InvM.se hIu1 bz0
    refine lv_iload_n hx hb dX1_disconnect_42 rfl (lv_at hl 0 rfl) ?_
    have hq1 : pX1_disconnect u = (j1, u3) := (by subst eu3; subst eu1; rw [hq]; rfl)
    exact W.iret (v := j1) hx hb hr (fun t ht hW => ⟨⟨j1, u3, rfl, ⟨hq1.symm, hIu3⟩, by rw [ht]; exact hP, va_K.moved hW.alike hK, hD⟩, hS.F ht⟩) hS.2.2 dX1_disconnect_43
  refine lv_aload_n hx hb dX1_disconnect_0 rfl (lv_at hl 0 rfl) ?_
  refine lv_iconst (v := 0) hx hb dX1_disconnect_1 (by decide) ?_
  refine va_put (D := D) (ci := 1) (v := .int 0) (ty := .int) (C := RX1) (T := TX1) (N := 15) hx hb hts hin tyX1 tyX1_ok nmX1 hown hK hP hD hS 0 rfl rfl 0 (by decide) (hts (.fieldLink RX1 20 "ModeDeskModel" "thrown" "I") (by decide +kernel)) (fun _ h9 => h9) rfl (by decide +kernel) rfl rfl (Nat.le_of_ble_eq_true rfl) dX1_disconnect_2 (fun H6 locs hP hD hS => ?_)
  obtain ⟨u5, eu5⟩ : ∃ y : MS, y = mt_ u 0 := ⟨_, rfl⟩
  have hP : va_P D vwCl (wM cI cZ h u5) H6 := by rw [eu5]; exact hP
  have hD : va_D A (wM cI cZ h u5) := by rw [eu5]; exact hD
  have hIu5 : InvM n u5 := by rw [eu5]; exact InvM.st hI _
  refine lv_aload_n hx hb dX1_disconnect_5 rfl (lv_at hl 0 rfl) ?_
  refine va_get (D := D) (ci := 1) (v := .int (me u5)) (C := RX1) (T := TX1) (N := 15) hx hb hts hin hown hK hP 0 rfl rfl 5 (by decide) (hts (.fieldLink RX1 62 "ModeDeskModel" "engaged" "Z") (by decide +kernel)) (fun _ h9 => h9) rfl dX1_disconnect_6 ?_
  refine lv_if_eq (tgt := 16) hx hb dX1_disconnect_9 (by decide) (fun c7 => ?_) (fun c7 => ?_)
  · refine lv_aload_n hx hb dX1_disconnect_16 rfl (lv_at hl 0 rfl) ?_
    refine va_get (D := D) (ci := 1) (v := .int (mw u5)) (C := RX1) (T := TX1) (N := 15) hx hb hts hin hown hK hP 0 rfl rfl 6 (by decide) (hts (.fieldLink RX1 59 "ModeDeskModel" "warning" "Z") (by decide +kernel)) (fun _ h9 => h9) rfl dX1_disconnect_17 ?_
    refine lv_if_eq (tgt := 27) hx hb dX1_disconnect_20 (by decide) (fun c8 => ?_) (fun c8 => ?_)
    · refine lv_iconst (v := 0) hx hb dX1_disconnect_27 (by decide) ?_
      exact J28 u5 0 H6 _ _ (lv_sub hl [0] rfl) hP hD hS hK hIu5  (by subst eu5; unfold pX1_disconnect; first | (rw [if_pos c7, if_pos c8]; done) | (rw [if_pos c7, if_pos c8]; rfl))
    · refine lv_iconst (v := 1) hx hb dX1_disconnect_23 (by decide) ?_
      refine lv_goto (tgt := 28) hx hb dX1_disconnect_24 (by decide) ?_
      exact J28 u5 1 H6 _ _ (lv_sub hl [0] rfl) hP hD hS hK hIu5  (by subst eu5; unfold pX1_disconnect; first | (rw [if_pos c7, if_neg c8]; done) | (rw [if_pos c7, if_neg c8]; rfl))
  · refine lv_iconst (v := 2) hx hb dX1_disconnect_12 (by decide) ?_
    refine lv_goto (tgt := 28) hx hb dX1_disconnect_13 (by decide) ?_
    exact J28 u5 2 H6 _ _ (lv_sub hl [0] rfl) hP hD hS hK hIu5  (by subst eu5; unfold pX1_disconnect; first | (rw [if_neg c7]; done) | (rw [if_neg c7]; rfl))
def pX1_step_100 (u : MS) (a1 : Int32) (j1 j2 j3 : Int32) : Int32 × MS := ((j2 + j1), u)
def pX1_step_88 (u : MS) (a1 : Int32) (j1 j2 : Int32) : Int32 × MS := if (mh u) ≤ 0 then (pX1_step_100 u a1 0 j1 j2) else (pX1_step_100 u a1 1 j1 j2)
def pX1_step_73 (u : MS) (a1 : Int32) (j1 j2 : Int32) : Int32 × MS := if (mf (mh_ u j1)) ≤ 0 then (pX1_step_88 (mh_ u j1) a1 0 j2) else (pX1_step_88 (mh_ u j1) a1 1 j2)
def pX1_step_51 (u : MS) (a1 : Int32) (j1 j2 : Int32) : Int32 × MS := if (mh (mf_ u j1)) ≤ j2 then (pX1_step_73 (mf_ u j1) a1 0 j2) else (pX1_step_73 (mf_ u j1) a1 ((mh (mf_ u j1)) - j2) j2)
def pX1_step_31 (u : MS) (a1 : Int32) (j1 : Int32) : Int32 × MS := if (mf u) ≤ j1 then (pX1_step_51 u a1 0 j1) else (pX1_step_51 u a1 ((mf u) - j1) j1)
def pX1_step (u : MS) (a1 : Int32) : Int32 × MS := if a1 < 1 then ((0, (pX1_good u 0).2)) else (if a1 ≤ 10 then (pX1_step_31 ((pX1_good u 1).2) a1 a1) else (pX1_step_31 ((pX1_good u 1).2) a1 10))
set_option maxHeartbeats 4000000 in
set_option maxRecDepth 100000 in
theorem kX1_step (l : Launch) (D : va_G) (cI cZ : ClassId) (h : Nat → Nat) (sz : Nat) (u : MS) (a1 : Int32) (n : Nat) (hI : InvM n u) (hn : n ≤ 1999000) : Mi l yX1_step wsX1_step { frames := 1, cells := 0, slots := 0, locals := 21 } D (tyl cI cZ) (wM cI cZ h) sz u [.ref (h 0), .int a1] (fun r u9 => (r, u9) = pX1_step u a1 ∧ InvM n u9) := by
  refine Met.ofW (cc := cX1_step) (maxL := 3) (ret := (some .int)) (by decide) rfl ?_
  intro p e s m args below meth c s₁ B hml hv
  obtain ⟨rfl, hsz, hP, hK, hD0⟩ := hv
  have hx := B.exec
  have hb := B.bytes
  have hr := B.returns
  have hts := atoms_spec (ws := wsX1_step) B.pre
  have hin : ∀ w ∈ wsX10, w ∈ wsX1_step := fun w h9 => List.mem_cons_of_mem _ (List.mem_append_right _ h9)
  have hown : s.vm.findClass RX1 = some m.cls := findClass_of_methodNamed B.named
  have hlocks := B.notSynchronized
  subst hsz
  have hD : va_D (va_A (wM cI cZ h u) s.heap.size) (wM cI cZ h u) := hD0.self (sz := s.heap.size)
  have hA : ∀ q : Nat, s.heap.size ≤ q → va_A (wM cI cZ h u) s.heap.size q := fun q h9 => Or.inr h9
  have hS : va_S (va_A (wM cI cZ h u) s.heap.size) s.heap s.heap [] := va_S.rf
  have hl := lv_entry ([.ref (h 0), .int a1]) (n := 3) (Nat.le_of_ble_eq_true rfl)
  rw [lg_entry_eq]
  generalize (lg_sl ([.ref (h 0), .int a1]) ++ List.replicate (3 - (lg_sl ([.ref (h 0), .int a1])).length) Slot.unset).toArray = ls at hl ⊢
  have hl : lv_has ls 3 [(0, .ref (h 0)), (1, .int a1)] := hl
  generalize va_A (wM cI cZ h u) s.heap.size = A at hD hA hS ⊢
  have J100 : ∀ (v100 : MS) (j1 j2 j3 : Int32) (G100 : Heap) (locs : List Loc) (ls : Array Slot), lv_has ls 3 [(0, .ref (h 0)), (1, .int a1), (2, .int j3)] → va_P D vwCl (wM cI cZ h v100) G100 → va_D A (wM cI cZ h v100) → va_S A s.heap G100 locs → va_K D vwCl (tyl cI cZ) s → InvM n v100 → bz j1 → bz j2 → pX1_step u a1 = pX1_step_100 v100 a1 j1 j2 j3 → W p l e (headSpec wsX1_step { frames := 1, cells := 0, slots := 0, locals := 21 }).room s m ([.ref (h 0), .int a1] : List Value).toArray below meth c G100 locs 0 0 (MQ below (va_Qi (fun r u9 => (r, u9) = pX1_step u a1 ∧ InvM n u9) (BW D (tyl cI cZ) A (wM cI cZ h)) A) ([.ref (h 0), .int a1] : List Value).toArray s 0 0 A) (F0 m 100 ls [.int j1, .int j2]) := by
    intro v100 j1 j2 j3 G100 locs ls hl hP hD hS hK hIv100 hzj1 hzj2 hq
    refine lv_iadd hx hb dX1_step_100 ?_
    have hq1 : pX1_step u a1 = ((j2 + j1), v100) := (by rw [hq]; rfl)
    exact W.iret (v := (j2 + j1)) hx hb hr (fun t ht hW => ⟨⟨(j2 + j1), v100, rfl, ⟨hq1.symm, hIv100⟩, by rw [ht]; exact hP, va_K.moved hW.alike hK, hD⟩, hS.F ht⟩) hS.2.2 dX1_step_101
  have J88 : ∀ (v88 : MS) (j1 j2 : Int32) (G88 : Heap) (locs : List Loc) (ls : Array Slot), lv_has ls 3 [(0, .ref (h 0)), (1, .int a1), (2, .int j2)] → va_P D vwCl (wM cI cZ h v88) G88 → va_D A (wM cI cZ h v88) → va_S A s.heap G88 locs → va_K D vwCl (tyl cI cZ) s → InvM n v88 → bz j1 → pX1_step u a1 = pX1_step_88 v88 a1 j1 j2 → W p l e (headSpec wsX1_step { frames := 1, cells := 0, slots := 0, locals := 21 }).room s m ([.ref (h 0), .int a1] : List Value).toArray below meth c G88 locs 0 0 (MQ below (va_Qi (fun r u9 => (r, u9) = pX1_step u a1 ∧ InvM n u9) (BW D (tyl cI cZ) A (wM cI cZ h)) A) ([.ref (h 0), .int a1] : List Value).toArray s 0 0 A) (F0 m 88 ls [.int j1]) := by
    intro v88 j1 j2 G88 locs ls hl hP hD hS hK hIv88 hzj1 hq
    refine lv_aload_n hx hb dX1_step_88 rfl (lv_at hl 0 rfl) ?_
    refine va_get (D := D) (ci := 1) (v := .int (mh v88)) (C := RX1) (T := TX1) (N := 15) hx hb hts hin hown hK hP 0 rfl rfl 12 (by decide) (hts (.fieldLink RX1 39 "ModeDeskModel" "flash1" "I") (by decide +kernel)) (fun _ h9 => h9) rfl dX1_step_89 ?_
    refine lv_if_le (tgt := 99) hx hb dX1_step_92 (by decide) (fun c1 => ?_) (fun c1 => ?_)
    · refine lv_iconst (v := 0) hx hb dX1_step_99 (by decide) ?_
      exact J100 v88 0 j1 j2 G88 _ _ (lv_sub hl [0, 1, 2] rfl) hP hD hS hK hIv88 bz0 hzj1 (by rw [hq]; unfold pX1_step_88; first | (rw [if_pos c1]; done) | (rw [if_pos c1]; rfl))
    · refine lv_iconst (v := 1) hx hb dX1_step_95 (by decide) ?_
      refine lv_goto (tgt := 100) hx hb dX1_step_96 (by decide) ?_
      exact J100 v88 1 j1 j2 G88 _ _ (lv_sub hl [0, 1, 2] rfl) hP hD hS hK hIv88 bz1 hzj1 (by rw [hq]; unfold pX1_step_88; first | (rw [if_neg c1]; done) | (rw [if_neg c1]; rfl))
  have J73 : ∀ (v73 : MS) (j1 j2 : Int32) (G73 : Heap) (locs : List Loc) (ls : Array Slot), lv_has ls 3 [(0, .ref (h 0)), (1, .int a1), (2, .int j2)] → va_P D vwCl (wM cI cZ h v73) G73 → va_D A (wM cI cZ h v73) → va_S A s.heap G73 locs → va_K D vwCl (tyl cI cZ) s → InvM n v73 → pX1_step u a1 = pX1_step_73 v73 a1 j1 j2 → W p l e (headSpec wsX1_step { frames := 1, cells := 0, slots := 0, locals := 21 }).room s m ([.ref (h 0), .int a1] : List Value).toArray below meth c G73 locs 0 0 (MQ below (va_Qi (fun r u9 => (r, u9) = pX1_step u a1 ∧ InvM n u9) (BW D (tyl cI cZ) A (wM cI cZ h)) A) ([.ref (h 0), .int a1] : List Value).toArray s 0 0 A) (F0 m 73 ls [.int j1, .ref (h 0)]) := by
    intro v73 j1 j2 G73 locs ls hl hP hD hS hK hIv73  hq
    refine va_put (D := D) (ci := 1) (v := .int j1) (ty := .int) (C := RX1) (T := TX1) (N := 15) hx hb hts hin tyX1 tyX1_ok nmX1 hown hK hP hD hS 0 rfl rfl 12 (by decide) (hts (.fieldLink RX1 39 "ModeDeskModel" "flash1" "I") (by decide +kernel)) (fun _ h9 => h9) rfl (by decide +kernel) rfl rfl (Nat.le_of_ble_eq_true rfl) dX1_step_73 (fun H3 locs hP hD hS => ?_)
    obtain ⟨u2, eu2⟩ : ∃ y : MS, y = mh_ v73 j1 := ⟨_, rfl⟩
    have hP : va_P D vwCl (wM cI cZ h u2) H3 := by rw [eu2]; exact hP
    have hD : va_D A (wM cI cZ h u2) := by rw [eu2]; exact hD
    have hIu2 : InvM n u2 := by rw [eu2]; exact InvM.sh hIv73 _
    refine lv_aload_n hx hb dX1_step_76 rfl (lv_at hl 0 rfl) ?_
    refine va_get (D := D) (ci := 1) (v := .int (mf u2)) (C := RX1) (T := TX1) (N := 15) hx hb hts hin hown hK hP 0 rfl rfl 11 (by decide) (hts (.fieldLink RX1 33 "ModeDeskModel" "flash0" "I") (by decide +kernel)) (fun _ h9 => h9) rfl dX1_step_77 ?_
    refine lv_if_le (tgt := 87) hx hb dX1_step_80 (by decide) (fun c4 => ?_) (fun c4 => ?_)
    · refine lv_iconst (v := 0) hx hb dX1_step_87 (by decide) ?_
      exact J88 u2 0 j2 H3 _ _ (lv_sub hl [0, 1, 2] rfl) hP hD hS hK hIu2 bz0 (by subst eu2; rw [hq]; unfold pX1_step_73; first | (rw [if_pos c4]; done) | (rw [if_pos c4]; rfl))
    · refine lv_iconst (v := 1) hx hb dX1_step_83 (by decide) ?_
      refine lv_goto (tgt := 88) hx hb dX1_step_84 (by decide) ?_
      exact J88 u2 1 j2 H3 _ _ (lv_sub hl [0, 1, 2] rfl) hP hD hS hK hIu2 bz1 (by subst eu2; rw [hq]; unfold pX1_step_73; first | (rw [if_neg c4]; done) | (rw [if_neg c4]; rfl))
  have J51 : ∀ (v51 : MS) (j1 j2 : Int32) (G51 : Heap) (locs : List Loc) (ls : Array Slot), lv_has ls 3 [(0, .ref (h 0)), (1, .int a1), (2, .int j2)] → va_P D vwCl (wM cI cZ h v51) G51 → va_D A (wM cI cZ h v51) → va_S A s.heap G51 locs → va_K D vwCl (tyl cI cZ) s → InvM n v51 → pX1_step u a1 = pX1_step_51 v51 a1 j1 j2 → W p l e (headSpec wsX1_step { frames := 1, cells := 0, slots := 0, locals := 21 }).room s m ([.ref (h 0), .int a1] : List Value).toArray below meth c G51 locs 0 0 (MQ below (va_Qi (fun r u9 => (r, u9) = pX1_step u a1 ∧ InvM n u9) (BW D (tyl cI cZ) A (wM cI cZ h)) A) ([.ref (h 0), .int a1] : List Value).toArray s 0 0 A) (F0 m 51 ls [.int j1, .ref (h 0)]) := by
    intro v51 j1 j2 G51 locs ls hl hP hD hS hK hIv51  hq
    refine va_put (D := D) (ci := 1) (v := .int j1) (ty := .int) (C := RX1) (T := TX1) (N := 15) hx hb hts hin tyX1 tyX1_ok nmX1 hown hK hP hD hS 0 rfl rfl 11 (by decide) (hts (.fieldLink RX1 33 "ModeDeskModel" "flash0" "I") (by decide +kernel)) (fun _ h9 => h9) rfl (by decide +kernel) rfl rfl (Nat.le_of_ble_eq_true rfl) dX1_step_51 (fun H6 locs hP hD hS => ?_)
    obtain ⟨u5, eu5⟩ : ∃ y : MS, y = mf_ v51 j1 := ⟨_, rfl⟩
    have hP : va_P D vwCl (wM cI cZ h u5) H6 := by rw [eu5]; exact hP
    have hD : va_D A (wM cI cZ h u5) := by rw [eu5]; exact hD
    have hIu5 : InvM n u5 := by rw [eu5]; exact InvM.sf hIv51 _
    refine lv_aload_n hx hb dX1_step_54 rfl (lv_at hl 0 rfl) ?_
    refine lv_aload_n hx hb dX1_step_55 rfl (lv_at hl 0 rfl) ?_
    refine va_get (D := D) (ci := 1) (v := .int (mh u5)) (C := RX1) (T := TX1) (N := 15) hx hb hts hin hown hK hP 0 rfl rfl 12 (by decide) (hts (.fieldLink RX1 39 "ModeDeskModel" "flash1" "I") (by decide +kernel)) (fun _ h9 => h9) rfl dX1_step_56 ?_
    refine lv_iload_n hx hb dX1_step_59 rfl (lv_at hl 2 rfl) ?_
    refine lv_icmp_le (tgt := 72) hx hb dX1_step_60 (by decide) (fun c7 => ?_) (fun c7 => ?_)
    · refine lv_iconst (v := 0) hx hb dX1_step_72 (by decide) ?_
      exact J73 u5 0 j2 H6 _ _ (lv_sub hl [0, 1, 2] rfl) hP hD hS hK hIu5  (by subst eu5; rw [hq]; unfold pX1_step_51; first | (rw [if_pos c7]; done) | (rw [if_pos c7]; rfl))
    · refine lv_aload_n hx hb dX1_step_63 rfl (lv_at hl 0 rfl) ?_
      refine va_get (D := D) (ci := 1) (v := .int (mh u5)) (C := RX1) (T := TX1) (N := 15) hx hb hts hin hown hK hP 0 rfl rfl 12 (by decide) (hts (.fieldLink RX1 39 "ModeDeskModel" "flash1" "I") (by decide +kernel)) (fun _ h9 => h9) rfl dX1_step_64 ?_
      refine lv_iload_n hx hb dX1_step_67 rfl (lv_at hl 2 rfl) ?_
      refine lv_isub hx hb dX1_step_68 ?_
      refine lv_goto (tgt := 73) hx hb dX1_step_69 (by decide) ?_
      exact J73 u5 ((mh u5) - j2) j2 H6 _ _ (lv_sub hl [0, 1, 2] rfl) hP hD hS hK hIu5  (by subst eu5; rw [hq]; unfold pX1_step_51; first | (rw [if_neg c7]; done) | (rw [if_neg c7]; rfl))
  have J31 : ∀ (v31 : MS) (j1 : Int32) (G31 : Heap) (locs : List Loc) (ls : Array Slot), lv_has ls 3 [(0, .ref (h 0)), (1, .int a1)] → va_P D vwCl (wM cI cZ h v31) G31 → va_D A (wM cI cZ h v31) → va_S A s.heap G31 locs → va_K D vwCl (tyl cI cZ) s → InvM n v31 → pX1_step u a1 = pX1_step_31 v31 a1 j1 → W p l e (headSpec wsX1_step { frames := 1, cells := 0, slots := 0, locals := 21 }).room s m ([.ref (h 0), .int a1] : List Value).toArray below meth c G31 locs 0 0 (MQ below (va_Qi (fun r u9 => (r, u9) = pX1_step u a1 ∧ InvM n u9) (BW D (tyl cI cZ) A (wM cI cZ h)) A) ([.ref (h 0), .int a1] : List Value).toArray s 0 0 A) (F0 m 31 ls [.int j1]) := by
    intro v31 j1 G31 locs ls hl hP hD hS hK hIv31  hq
    refine lv_istore_n (lv' := [(2, .int j1), (0, .ref (h 0)), (1, .int a1)]) hx hb dX1_step_31 rfl hl (by decide) rfl (fun ls hl => ?_)
    refine lv_aload_n hx hb dX1_step_32 rfl (lv_at hl 1 rfl) ?_
    refine lv_aload_n hx hb dX1_step_33 rfl (lv_at hl 1 rfl) ?_
    refine va_get (D := D) (ci := 1) (v := .int (mf v31)) (C := RX1) (T := TX1) (N := 15) hx hb hts hin hown hK hP 0 rfl rfl 11 (by decide) (hts (.fieldLink RX1 33 "ModeDeskModel" "flash0" "I") (by decide +kernel)) (fun _ h9 => h9) rfl dX1_step_34 ?_
    refine lv_iload_n hx hb dX1_step_37 rfl (lv_at hl 0 rfl) ?_
    refine lv_icmp_le (tgt := 50) hx hb dX1_step_38 (by decide) (fun c8 => ?_) (fun c8 => ?_)
    · refine lv_iconst (v := 0) hx hb dX1_step_50 (by decide) ?_
      exact J51 v31 0 j1 G31 _ _ (lv_sub hl [1, 2, 0] rfl) hP hD hS hK hIv31  (by rw [hq]; unfold pX1_step_31; first | (rw [if_pos c8]; done) | (rw [if_pos c8]; rfl))
    · refine lv_aload_n hx hb dX1_step_41 rfl (lv_at hl 1 rfl) ?_
      refine va_get (D := D) (ci := 1) (v := .int (mf v31)) (C := RX1) (T := TX1) (N := 15) hx hb hts hin hown hK hP 0 rfl rfl 11 (by decide) (hts (.fieldLink RX1 33 "ModeDeskModel" "flash0" "I") (by decide +kernel)) (fun _ h9 => h9) rfl dX1_step_42 ?_
      refine lv_iload_n hx hb dX1_step_45 rfl (lv_at hl 0 rfl) ?_
      refine lv_isub hx hb dX1_step_46 ?_
      refine lv_goto (tgt := 51) hx hb dX1_step_47 (by decide) ?_
      exact J51 v31 ((mf v31) - j1) j1 G31 _ _ (lv_sub hl [1, 2, 0] rfl) hP hD hS hK hIv31  (by rw [hq]; unfold pX1_step_31; first | (rw [if_neg c8]; done) | (rw [if_neg c8]; rfl))
  refine lv_aload_n hx hb dX1_step_0 rfl (lv_at hl 0 rfl) ?_
  refine lv_iload_n hx hb dX1_step_1 rfl (lv_at hl 1 rfl) ?_
  refine lv_iconst (v := 1) hx hb dX1_step_2 (by decide) ?_
  refine lv_icmp_lt (tgt := 10) hx hb dX1_step_3 (by decide) (fun c9 => ?_) (fun c9 => ?_)
  · refine lv_iconst (v := 0) hx hb dX1_step_10 (by decide) ?_
    have hFc := va_free (wc := wM cI cZ h u) hD hS hA [0, 1, 2] rfl
    refine va_calli (va_runV (As := [.int 0]) (rest := []) ⟨hx, hb, hml, hown, hts⟩ (kX1_good l D cI cZ h s.heap.size u 0 n hI (by omega) bz0) (cwV 1 hts gX1_step_X1_good rfl rfl rfl (by decide +kernel) ⟨Nat.le_of_ble_eq_true rfl, Nat.le_of_ble_eq_true rfl⟩) ⟨bl_W, va_recv hK hP (ci := 1) (q0 := 0) rfl rfl, pr_W hP hK hD⟩ rfl rfl hl.1 rfl (lv_room (Nat.le_of_ble_eq_true rfl)) dX1_step_11 ⟨Nat.zero_le _, Nat.zero_le _⟩) hS (fun q _ h9 => hFc q h9) hFc (fun r10 u12 t H11 locs ht hvm hw hB hz1 hk1 hS => ?_)
    obtain ⟨hP, hK, hD⟩ := af_W hB ht hvm hFc
    clear hFc hB
    obtain ⟨e9, hIu12, br10⟩ := hw
    have er10 : r10 = (pX1_good u 0).1 := congrArg Prod.fst e9
    have eu12 : u12 = (pX1_good u 0).2 := congrArg Prod.snd e9
    clear e9
    have e9 : r10 = 0 := er10.trans (by rfl)
    clear er10
    subst e9
    refine lv_if_ne (tgt := 19) hx hb dX1_step_14 (by decide) (fun c9 => absurd (by decide) c9) (fun _ => ?_)
    refine lv_iconst (v := 0) hx hb dX1_step_17 (by decide) ?_
    have hq1 : pX1_step u a1 = (0, u12) := (by subst eu12; unfold pX1_step; first | (rw [if_pos c9]; done) | (rw [if_pos c9]; rfl))
    exact W.iret (v := 0) hx hb hr (fun t ht hW => ⟨⟨0, u12, rfl, ⟨hq1.symm, hIu12⟩, by rw [ht]; exact hP, va_K.moved hW.alike hK, hD⟩, hS.F ht⟩) hS.2.2 dX1_step_18
  · refine lv_iconst (v := 1) hx hb dX1_step_6 (by decide) ?_
    refine lv_goto (tgt := 11) hx hb dX1_step_7 (by decide) ?_
    have hFc := va_free (wc := wM cI cZ h u) hD hS hA [0, 1, 2] rfl
    refine va_calli (va_runV (As := [.int 1]) (rest := []) ⟨hx, hb, hml, hown, hts⟩ (kX1_good l D cI cZ h s.heap.size u 1 n hI (by omega) bz1) (cwV 1 hts gX1_step_X1_good rfl rfl rfl (by decide +kernel) ⟨Nat.le_of_ble_eq_true rfl, Nat.le_of_ble_eq_true rfl⟩) ⟨bl_W, va_recv hK hP (ci := 1) (q0 := 0) rfl rfl, pr_W hP hK hD⟩ rfl rfl hl.1 rfl (lv_room (Nat.le_of_ble_eq_true rfl)) dX1_step_11 ⟨Nat.zero_le _, Nat.zero_le _⟩) hS (fun q _ h9 => hFc q h9) hFc (fun r13 u15 t H14 locs ht hvm hw hB hz1 hk1 hS => ?_)
    obtain ⟨hP, hK, hD⟩ := af_W hB ht hvm hFc
    clear hFc hB
    obtain ⟨e9, hIu15, br13⟩ := hw
    have er13 : r13 = (pX1_good u 1).1 := congrArg Prod.fst e9
    have eu15 : u15 = (pX1_good u 1).2 := congrArg Prod.snd e9
    clear e9
    have e9 : r13 = 1 := er13.trans (by rfl)
    clear er13
    subst e9
    refine lv_if_ne (tgt := 19) hx hb dX1_step_14 (by decide) (fun _ => ?_) (fun c9 => absurd c9 (by decide))
    refine lv_iload_n hx hb dX1_step_19 rfl (lv_at hl 1 rfl) ?_
    refine lv_bipush (v := 10) hx hb dX1_step_20 (by decide) ?_
    refine lv_icmp_le (tgt := 30) hx hb dX1_step_22 (by decide) (fun c16 => ?_) (fun c16 => ?_)
    · refine lv_iload_n hx hb dX1_step_30 rfl (lv_at hl 1 rfl) ?_
      exact J31 u15 a1 H14 _ _ (lv_sub hl [0, 1] rfl) hP hD hS hK hIu15  (by subst eu15; unfold pX1_step; first | (rw [if_neg c9, if_pos c16]; done) | (rw [if_neg c9, if_pos c16]; rfl))
    · refine lv_bipush (v := 10) hx hb dX1_step_25 (by decide) ?_
      refine lv_goto (tgt := 31) hx hb dX1_step_27 (by decide) ?_
      exact J31 u15 10 H14 _ _ (lv_sub hl [0, 1] rfl) hP hD hS hK hIu15  (by subst eu15; unfold pX1_step; first | (rw [if_neg c9, if_neg c16]; done) | (rw [if_neg c9, if_neg c16]; rfl))
def pX1_mode (u : MS) (a1 : Int32) : Int32 × MS := if a1 = 0 then (if a1 = 0 then (((ml ((pX1_good u 1).2)), (pX1_good u 1).2)) else (((mv ((pX1_good u 1).2)), (pX1_good u 1).2))) else (if a1 = 1 then (if a1 = 0 then (((ml ((pX1_good u 1).2)), (pX1_good u 1).2)) else (((mv ((pX1_good u 1).2)), (pX1_good u 1).2))) else ((0, (pX1_good u 0).2)))
set_option maxHeartbeats 4000000 in
set_option maxRecDepth 100000 in
theorem kX1_mode (l : Launch) (D : va_G) (cI cZ : ClassId) (h : Nat → Nat) (sz : Nat) (u : MS) (a1 : Int32) (n : Nat) (hI : InvM n u) (hn : n ≤ 1999000) : Mi l yX1_mode wsX1_mode { frames := 1, cells := 0, slots := 0, locals := 21 } D (tyl cI cZ) (wM cI cZ h) sz u [.ref (h 0), .int a1] (fun r u9 => (r, u9) = pX1_mode u a1 ∧ InvM n u9) := by
  refine Met.ofW (cc := cX1_mode) (maxL := 2) (ret := (some .int)) (by decide) rfl ?_
  intro p e s m args below meth c s₁ B hml hv
  obtain ⟨rfl, hsz, hP, hK, hD0⟩ := hv
  have hx := B.exec
  have hb := B.bytes
  have hr := B.returns
  have hts := atoms_spec (ws := wsX1_mode) B.pre
  have hin : ∀ w ∈ wsX10, w ∈ wsX1_mode := fun w h9 => List.mem_cons_of_mem _ (List.mem_append_right _ h9)
  have hown : s.vm.findClass RX1 = some m.cls := findClass_of_methodNamed B.named
  have hlocks := B.notSynchronized
  subst hsz
  have hD : va_D (va_A (wM cI cZ h u) s.heap.size) (wM cI cZ h u) := hD0.self (sz := s.heap.size)
  have hA : ∀ q : Nat, s.heap.size ≤ q → va_A (wM cI cZ h u) s.heap.size q := fun q h9 => Or.inr h9
  have hS : va_S (va_A (wM cI cZ h u) s.heap.size) s.heap s.heap [] := va_S.rf
  have hl := lv_entry ([.ref (h 0), .int a1]) (n := 2) (Nat.le_of_ble_eq_true rfl)
  rw [lg_entry_eq]
  generalize (lg_sl ([.ref (h 0), .int a1]) ++ List.replicate (2 - (lg_sl ([.ref (h 0), .int a1])).length) Slot.unset).toArray = ls at hl ⊢
  have hl : lv_has ls 2 [(0, .ref (h 0)), (1, .int a1)] := hl
  generalize va_A (wM cI cZ h u) s.heap.size = A at hD hA hS ⊢
  refine lv_aload_n hx hb dX1_mode_0 rfl (lv_at hl 0 rfl) ?_
  refine lv_iload_n hx hb dX1_mode_1 rfl (lv_at hl 1 rfl) ?_
  refine lv_if_eq (tgt := 10) hx hb dX1_mode_2 (by decide) (fun c1 => ?_) (fun c1 => ?_)
  · refine lv_iconst (v := 1) hx hb dX1_mode_10 (by decide) ?_
    refine lv_goto (tgt := 15) hx hb dX1_mode_11 (by decide) ?_
    have hFc := va_free (wc := wM cI cZ h u) hD hS hA [0, 1, 2] rfl
    refine va_calli (va_runV (As := [.int 1]) (rest := []) ⟨hx, hb, hml, hown, hts⟩ (kX1_good l D cI cZ h s.heap.size u 1 n hI (by omega) bz1) (cwV 1 hts gX1_mode_X1_good rfl rfl rfl (by decide +kernel) ⟨Nat.le_of_ble_eq_true rfl, Nat.le_of_ble_eq_true rfl⟩) ⟨bl_W, va_recv hK hP (ci := 1) (q0 := 0) rfl rfl, pr_W hP hK hD⟩ rfl rfl hl.1 rfl (lv_room (Nat.le_of_ble_eq_true rfl)) dX1_mode_15 ⟨Nat.zero_le _, Nat.zero_le _⟩) hS (fun q _ h9 => hFc q h9) hFc (fun r2 u4 t H3 locs ht hvm hw hB hz1 hk1 hS => ?_)
    obtain ⟨hP, hK, hD⟩ := af_W hB ht hvm hFc
    clear hFc hB
    obtain ⟨e9, hIu4, br2⟩ := hw
    have er2 : r2 = (pX1_good u 1).1 := congrArg Prod.fst e9
    have eu4 : u4 = (pX1_good u 1).2 := congrArg Prod.snd e9
    clear e9
    have e9 : r2 = 1 := er2.trans (by rfl)
    clear er2
    subst e9
    refine lv_if_ne (tgt := 25) hx hb dX1_mode_18 (by decide) (fun _ => ?_) (fun c9 => absurd c9 (by decide))
    refine lv_iload_n hx hb dX1_mode_25 rfl (lv_at hl 1 rfl) ?_
    refine lv_if_ne (tgt := 36) hx hb dX1_mode_26 (by decide) (fun c5 => ?_) (fun c5 => ?_)
    · refine lv_aload_n hx hb dX1_mode_36 rfl (lv_at hl 0 rfl) ?_
      refine va_get (D := D) (ci := 1) (v := .int (mv u4)) (C := RX1) (T := TX1) (N := 15) hx hb hts hin hown hK hP 0 rfl rfl 2 (by decide) (hts (.fieldLink RX1 36 "ModeDeskModel" "vertical" "I") (by decide +kernel)) (fun _ h9 => h9) rfl dX1_mode_37 ?_
      have hq1 : pX1_mode u a1 = ((mv u4), u4) := (by subst eu4; unfold pX1_mode; first | (rw [if_pos c1, if_neg c5]; done) | (rw [if_pos c1, if_neg c5]; rfl))
      exact W.iret (v := (mv u4)) hx hb hr (fun t ht hW => ⟨⟨(mv u4), u4, rfl, ⟨hq1.symm, hIu4⟩, by rw [ht]; exact hP, va_K.moved hW.alike hK, hD⟩, hS.F ht⟩) hS.2.2 dX1_mode_40
    · refine lv_aload_n hx hb dX1_mode_29 rfl (lv_at hl 0 rfl) ?_
      refine va_get (D := D) (ci := 1) (v := .int (ml u4)) (C := RX1) (T := TX1) (N := 15) hx hb hts hin hown hK hP 0 rfl rfl 1 (by decide) (hts (.fieldLink RX1 26 "ModeDeskModel" "lateral" "I") (by decide +kernel)) (fun _ h9 => h9) rfl dX1_mode_30 ?_
      refine lv_goto (tgt := 40) hx hb dX1_mode_33 (by decide) ?_
      have hq1 : pX1_mode u a1 = ((ml u4), u4) := (by subst eu4; unfold pX1_mode; first | (rw [if_pos c1, if_pos c5]; done) | (rw [if_pos c1, if_pos c5]; rfl))
      exact W.iret (v := (ml u4)) hx hb hr (fun t ht hW => ⟨⟨(ml u4), u4, rfl, ⟨hq1.symm, hIu4⟩, by rw [ht]; exact hP, va_K.moved hW.alike hK, hD⟩, hS.F ht⟩) hS.2.2 dX1_mode_40
  · refine lv_iload_n hx hb dX1_mode_5 rfl (lv_at hl 1 rfl) ?_
    refine lv_iconst (v := 1) hx hb dX1_mode_6 (by decide) ?_
    refine lv_icmp_ne (tgt := 14) hx hb dX1_mode_7 (by decide) (fun c6 => ?_) (fun c6 => ?_)
    · refine lv_iconst (v := 0) hx hb dX1_mode_14 (by decide) ?_
      have hFc := va_free (wc := wM cI cZ h u) hD hS hA [0, 1, 2] rfl
      refine va_calli (va_runV (As := [.int 0]) (rest := []) ⟨hx, hb, hml, hown, hts⟩ (kX1_good l D cI cZ h s.heap.size u 0 n hI (by omega) bz0) (cwV 1 hts gX1_mode_X1_good rfl rfl rfl (by decide +kernel) ⟨Nat.le_of_ble_eq_true rfl, Nat.le_of_ble_eq_true rfl⟩) ⟨bl_W, va_recv hK hP (ci := 1) (q0 := 0) rfl rfl, pr_W hP hK hD⟩ rfl rfl hl.1 rfl (lv_room (Nat.le_of_ble_eq_true rfl)) dX1_mode_15 ⟨Nat.zero_le _, Nat.zero_le _⟩) hS (fun q _ h9 => hFc q h9) hFc (fun r7 u9 t H8 locs ht hvm hw hB hz1 hk1 hS => ?_)
      obtain ⟨hP, hK, hD⟩ := af_W hB ht hvm hFc
      clear hFc hB
      obtain ⟨e9, hIu9, br7⟩ := hw
      have er7 : r7 = (pX1_good u 0).1 := congrArg Prod.fst e9
      have eu9 : u9 = (pX1_good u 0).2 := congrArg Prod.snd e9
      clear e9
      have e9 : r7 = 0 := er7.trans (by rfl)
      clear er7
      subst e9
      refine lv_if_ne (tgt := 25) hx hb dX1_mode_18 (by decide) (fun c9 => absurd (by decide) c9) (fun _ => ?_)
      refine lv_iconst (v := 0) hx hb dX1_mode_21 (by decide) ?_
      refine lv_goto (tgt := 40) hx hb dX1_mode_22 (by decide) ?_
      have hq1 : pX1_mode u a1 = (0, u9) := (by subst eu9; unfold pX1_mode; first | (rw [if_neg c1, if_neg c6]; done) | (rw [if_neg c1, if_neg c6]; rfl))
      exact W.iret (v := 0) hx hb hr (fun t ht hW => ⟨⟨0, u9, rfl, ⟨hq1.symm, hIu9⟩, by rw [ht]; exact hP, va_K.moved hW.alike hK, hD⟩, hS.F ht⟩) hS.2.2 dX1_mode_40
    · refine lv_iconst (v := 1) hx hb dX1_mode_10 (by decide) ?_
      refine lv_goto (tgt := 15) hx hb dX1_mode_11 (by decide) ?_
      have hFc := va_free (wc := wM cI cZ h u) hD hS hA [0, 1, 2] rfl
      refine va_calli (va_runV (As := [.int 1]) (rest := []) ⟨hx, hb, hml, hown, hts⟩ (kX1_good l D cI cZ h s.heap.size u 1 n hI (by omega) bz1) (cwV 1 hts gX1_mode_X1_good rfl rfl rfl (by decide +kernel) ⟨Nat.le_of_ble_eq_true rfl, Nat.le_of_ble_eq_true rfl⟩) ⟨bl_W, va_recv hK hP (ci := 1) (q0 := 0) rfl rfl, pr_W hP hK hD⟩ rfl rfl hl.1 rfl (lv_room (Nat.le_of_ble_eq_true rfl)) dX1_mode_15 ⟨Nat.zero_le _, Nat.zero_le _⟩) hS (fun q _ h9 => hFc q h9) hFc (fun r10 u12 t H11 locs ht hvm hw hB hz1 hk1 hS => ?_)
      obtain ⟨hP, hK, hD⟩ := af_W hB ht hvm hFc
      clear hFc hB
      obtain ⟨e9, hIu12, br10⟩ := hw
      have er10 : r10 = (pX1_good u 1).1 := congrArg Prod.fst e9
      have eu12 : u12 = (pX1_good u 1).2 := congrArg Prod.snd e9
      clear e9
      have e9 : r10 = 1 := er10.trans (by rfl)
      clear er10
      subst e9
      refine lv_if_ne (tgt := 25) hx hb dX1_mode_18 (by decide) (fun _ => ?_) (fun c9 => absurd c9 (by decide))
      refine lv_iload_n hx hb dX1_mode_25 rfl (lv_at hl 1 rfl) ?_
      refine lv_if_ne (tgt := 36) hx hb dX1_mode_26 (by decide) (fun c13 => ?_) (fun c13 => ?_)
      · refine lv_aload_n hx hb dX1_mode_36 rfl (lv_at hl 0 rfl) ?_
        refine va_get (D := D) (ci := 1) (v := .int (mv u12)) (C := RX1) (T := TX1) (N := 15) hx hb hts hin hown hK hP 0 rfl rfl 2 (by decide) (hts (.fieldLink RX1 36 "ModeDeskModel" "vertical" "I") (by decide +kernel)) (fun _ h9 => h9) rfl dX1_mode_37 ?_
        have hq1 : pX1_mode u a1 = ((mv u12), u12) := (by subst eu12; unfold pX1_mode; first | (rw [if_neg c1, if_pos c6, if_neg c13]; done) | (rw [if_neg c1, if_pos c6, if_neg c13]; rfl))
        exact W.iret (v := (mv u12)) hx hb hr (fun t ht hW => ⟨⟨(mv u12), u12, rfl, ⟨hq1.symm, hIu12⟩, by rw [ht]; exact hP, va_K.moved hW.alike hK, hD⟩, hS.F ht⟩) hS.2.2 dX1_mode_40
      · refine lv_aload_n hx hb dX1_mode_29 rfl (lv_at hl 0 rfl) ?_
        refine va_get (D := D) (ci := 1) (v := .int (ml u12)) (C := RX1) (T := TX1) (N := 15) hx hb hts hin hown hK hP 0 rfl rfl 1 (by decide) (hts (.fieldLink RX1 26 "ModeDeskModel" "lateral" "I") (by decide +kernel)) (fun _ h9 => h9) rfl dX1_mode_30 ?_
        refine lv_goto (tgt := 40) hx hb dX1_mode_33 (by decide) ?_
        have hq1 : pX1_mode u a1 = ((ml u12), u12) := (by subst eu12; unfold pX1_mode; first | (rw [if_neg c1, if_pos c6, if_pos c13]; done) | (rw [if_neg c1, if_pos c6, if_pos c13]; rfl))
        exact W.iret (v := (ml u12)) hx hb hr (fun t ht hW => ⟨⟨(ml u12), u12, rfl, ⟨hq1.symm, hIu12⟩, by rw [ht]; exact hP, va_K.moved hW.alike hK, hD⟩, hS.F ht⟩) hS.2.2 dX1_mode_40
def pX1_armed (u : MS) (a1 : Int32) : Int32 × MS := if a1 < 0 then ((0, (pX1_good u 0).2)) else (if 3 < a1 then ((0, (pX1_good u 0).2)) else (if a1 = 0 then (if (ma ((pX1_good u 1).2)) = 1 then ((1, (pX1_good u 1).2)) else ((0, (pX1_good u 1).2))) else (if a1 = 1 then (if (ma ((pX1_good u 1).2)) = 2 then ((1, (pX1_good u 1).2)) else ((0, (pX1_good u 1).2))) else (if a1 = 2 then (((mg ((pX1_good u 1).2)), (pX1_good u 1).2)) else (if (mv ((pX1_good u 1).2)) ≤ 0 then ((0, (pX1_good u 1).2)) else (if 4 ≤ (mv ((pX1_good u 1).2)) then ((0, (pX1_good u 1).2)) else ((1, (pX1_good u 1).2))))))))
set_option maxHeartbeats 4000000 in
set_option maxRecDepth 100000 in
theorem kX1_armed (l : Launch) (D : va_G) (cI cZ : ClassId) (h : Nat → Nat) (sz : Nat) (u : MS) (a1 : Int32) (n : Nat) (hI : InvM n u) (hn : n ≤ 1999000) : Mi l yX1_armed wsX1_armed { frames := 1, cells := 0, slots := 0, locals := 21 } D (tyl cI cZ) (wM cI cZ h) sz u [.ref (h 0), .int a1] (fun r u9 => (r, u9) = pX1_armed u a1 ∧ InvM n u9 ∧ bz r) := by
  refine Met.ofW (cc := cX1_armed) (maxL := 2) (ret := (some .boolean)) (by decide) rfl ?_
  intro p e s m args below meth c s₁ B hml hv
  obtain ⟨rfl, hsz, hP, hK, hD0⟩ := hv
  have hx := B.exec
  have hb := B.bytes
  have hr := B.returns
  have hts := atoms_spec (ws := wsX1_armed) B.pre
  have hin : ∀ w ∈ wsX10, w ∈ wsX1_armed := fun w h9 => List.mem_cons_of_mem _ (List.mem_append_right _ h9)
  have hown : s.vm.findClass RX1 = some m.cls := findClass_of_methodNamed B.named
  have hlocks := B.notSynchronized
  subst hsz
  have hD : va_D (va_A (wM cI cZ h u) s.heap.size) (wM cI cZ h u) := hD0.self (sz := s.heap.size)
  have hA : ∀ q : Nat, s.heap.size ≤ q → va_A (wM cI cZ h u) s.heap.size q := fun q h9 => Or.inr h9
  have hS : va_S (va_A (wM cI cZ h u) s.heap.size) s.heap s.heap [] := va_S.rf
  have hl := lv_entry ([.ref (h 0), .int a1]) (n := 2) (Nat.le_of_ble_eq_true rfl)
  rw [lg_entry_eq]
  generalize (lg_sl ([.ref (h 0), .int a1]) ++ List.replicate (2 - (lg_sl ([.ref (h 0), .int a1])).length) Slot.unset).toArray = ls at hl ⊢
  have hl : lv_has ls 2 [(0, .ref (h 0)), (1, .int a1)] := hl
  generalize va_A (wM cI cZ h u) s.heap.size = A at hD hA hS ⊢
  refine lv_aload_n hx hb dX1_armed_0 rfl (lv_at hl 0 rfl) ?_
  refine lv_iload_n hx hb dX1_armed_1 rfl (lv_at hl 1 rfl) ?_
  refine lv_if_lt (tgt := 14) hx hb dX1_armed_2 (by decide) (fun c1 => ?_) (fun c1 => ?_)
  · refine lv_iconst (v := 0) hx hb dX1_armed_14 (by decide) ?_
    have hFc := va_free (wc := wM cI cZ h u) hD hS hA [0, 1, 2] rfl
    refine va_calli (va_runV (As := [.int 0]) (rest := []) ⟨hx, hb, hml, hown, hts⟩ (kX1_good l D cI cZ h s.heap.size u 0 n hI (by omega) bz0) (cwV 1 hts gX1_armed_X1_good rfl rfl rfl (by decide +kernel) ⟨Nat.le_of_ble_eq_true rfl, Nat.le_of_ble_eq_true rfl⟩) ⟨bl_W, va_recv hK hP (ci := 1) (q0 := 0) rfl rfl, pr_W hP hK hD⟩ rfl rfl hl.1 rfl (lv_room (Nat.le_of_ble_eq_true rfl)) dX1_armed_15 ⟨Nat.zero_le _, Nat.zero_le _⟩) hS (fun q _ h9 => hFc q h9) hFc (fun r2 u4 t H3 locs ht hvm hw hB hz1 hk1 hS => ?_)
    obtain ⟨hP, hK, hD⟩ := af_W hB ht hvm hFc
    clear hFc hB
    obtain ⟨e9, hIu4, br2⟩ := hw
    have er2 : r2 = (pX1_good u 0).1 := congrArg Prod.fst e9
    have eu4 : u4 = (pX1_good u 0).2 := congrArg Prod.snd e9
    clear e9
    have e9 : r2 = 0 := er2.trans (by rfl)
    clear er2
    subst e9
    refine lv_if_ne (tgt := 23) hx hb dX1_armed_18 (by decide) (fun c9 => absurd (by decide) c9) (fun _ => ?_)
    refine lv_iconst (v := 0) hx hb dX1_armed_21 (by decide) ?_
    have hq1 : pX1_armed u a1 = (0, u4) := (by subst eu4; unfold pX1_armed; first | (rw [if_pos c1]; done) | (rw [if_pos c1]; rfl))
    exact W.zret (v := 0) hx hb hr (bz_n bz0) (fun t ht hW => ⟨⟨0, u4, rfl, ⟨hq1.symm, hIu4, bz0⟩, by rw [ht]; exact hP, va_K.moved hW.alike hK, hD⟩, hS.F ht⟩) hS.2.2 dX1_armed_22
  · refine lv_iload_n hx hb dX1_armed_5 rfl (lv_at hl 1 rfl) ?_
    refine lv_iconst (v := 3) hx hb dX1_armed_6 (by decide) ?_
    refine lv_icmp_gt (tgt := 14) hx hb dX1_armed_7 (by decide) (fun c5 => ?_) (fun c5 => ?_)
    · refine lv_iconst (v := 0) hx hb dX1_armed_14 (by decide) ?_
      have hFc := va_free (wc := wM cI cZ h u) hD hS hA [0, 1, 2] rfl
      refine va_calli (va_runV (As := [.int 0]) (rest := []) ⟨hx, hb, hml, hown, hts⟩ (kX1_good l D cI cZ h s.heap.size u 0 n hI (by omega) bz0) (cwV 1 hts gX1_armed_X1_good rfl rfl rfl (by decide +kernel) ⟨Nat.le_of_ble_eq_true rfl, Nat.le_of_ble_eq_true rfl⟩) ⟨bl_W, va_recv hK hP (ci := 1) (q0 := 0) rfl rfl, pr_W hP hK hD⟩ rfl rfl hl.1 rfl (lv_room (Nat.le_of_ble_eq_true rfl)) dX1_armed_15 ⟨Nat.zero_le _, Nat.zero_le _⟩) hS (fun q _ h9 => hFc q h9) hFc (fun r6 u8 t H7 locs ht hvm hw hB hz1 hk1 hS => ?_)
      obtain ⟨hP, hK, hD⟩ := af_W hB ht hvm hFc
      clear hFc hB
      obtain ⟨e9, hIu8, br6⟩ := hw
      have er6 : r6 = (pX1_good u 0).1 := congrArg Prod.fst e9
      have eu8 : u8 = (pX1_good u 0).2 := congrArg Prod.snd e9
      clear e9
      have e9 : r6 = 0 := er6.trans (by rfl)
      clear er6
      subst e9
      refine lv_if_ne (tgt := 23) hx hb dX1_armed_18 (by decide) (fun c9 => absurd (by decide) c9) (fun _ => ?_)
      refine lv_iconst (v := 0) hx hb dX1_armed_21 (by decide) ?_
      have hq1 : pX1_armed u a1 = (0, u8) := (by subst eu8; unfold pX1_armed; first | (rw [if_neg c1, if_pos c5]; done) | (rw [if_neg c1, if_pos c5]; rfl))
      exact W.zret (v := 0) hx hb hr (bz_n bz0) (fun t ht hW => ⟨⟨0, u8, rfl, ⟨hq1.symm, hIu8, bz0⟩, by rw [ht]; exact hP, va_K.moved hW.alike hK, hD⟩, hS.F ht⟩) hS.2.2 dX1_armed_22
    · refine lv_iconst (v := 1) hx hb dX1_armed_10 (by decide) ?_
      refine lv_goto (tgt := 15) hx hb dX1_armed_11 (by decide) ?_
      have hFc := va_free (wc := wM cI cZ h u) hD hS hA [0, 1, 2] rfl
      refine va_calli (va_runV (As := [.int 1]) (rest := []) ⟨hx, hb, hml, hown, hts⟩ (kX1_good l D cI cZ h s.heap.size u 1 n hI (by omega) bz1) (cwV 1 hts gX1_armed_X1_good rfl rfl rfl (by decide +kernel) ⟨Nat.le_of_ble_eq_true rfl, Nat.le_of_ble_eq_true rfl⟩) ⟨bl_W, va_recv hK hP (ci := 1) (q0 := 0) rfl rfl, pr_W hP hK hD⟩ rfl rfl hl.1 rfl (lv_room (Nat.le_of_ble_eq_true rfl)) dX1_armed_15 ⟨Nat.zero_le _, Nat.zero_le _⟩) hS (fun q _ h9 => hFc q h9) hFc (fun r9 u11 t H10 locs ht hvm hw hB hz1 hk1 hS => ?_)
      obtain ⟨hP, hK, hD⟩ := af_W hB ht hvm hFc
      clear hFc hB
      obtain ⟨e9, hIu11, br9⟩ := hw
      have er9 : r9 = (pX1_good u 1).1 := congrArg Prod.fst e9
      have eu11 : u11 = (pX1_good u 1).2 := congrArg Prod.snd e9
      clear e9
      have e9 : r9 = 1 := er9.trans (by rfl)
      clear er9
      subst e9
      refine lv_if_ne (tgt := 23) hx hb dX1_armed_18 (by decide) (fun _ => ?_) (fun c9 => absurd c9 (by decide))
      refine lv_iload_n hx hb dX1_armed_23 rfl (lv_at hl 1 rfl) ?_
      refine lv_if_ne (tgt := 43) hx hb dX1_armed_24 (by decide) (fun c12 => ?_) (fun c12 => ?_)
      · refine lv_iload_n hx hb dX1_armed_43 rfl (lv_at hl 1 rfl) ?_
        refine lv_iconst (v := 1) hx hb dX1_armed_44 (by decide) ?_
        refine lv_icmp_ne (tgt := 64) hx hb dX1_armed_45 (by decide) (fun c13 => ?_) (fun c13 => ?_)
        · refine lv_iload_n hx hb dX1_armed_64 rfl (lv_at hl 1 rfl) ?_
          refine lv_iconst (v := 2) hx hb dX1_armed_65 (by decide) ?_
          refine lv_icmp_ne (tgt := 76) hx hb dX1_armed_66 (by decide) (fun c14 => ?_) (fun c14 => ?_)
          · refine lv_aload_n hx hb dX1_armed_76 rfl (lv_at hl 0 rfl) ?_
            refine va_get (D := D) (ci := 1) (v := .int (mv u11)) (C := RX1) (T := TX1) (N := 15) hx hb hts hin hown hK hP 0 rfl rfl 2 (by decide) (hts (.fieldLink RX1 36 "ModeDeskModel" "vertical" "I") (by decide +kernel)) (fun _ h9 => h9) rfl dX1_armed_77 ?_
            refine lv_if_le (tgt := 95) hx hb dX1_armed_80 (by decide) (fun c15 => ?_) (fun c15 => ?_)
            · refine lv_iconst (v := 0) hx hb dX1_armed_95 (by decide) ?_
              have hq1 : pX1_armed u a1 = (0, u11) := (by subst eu11; unfold pX1_armed; first | (rw [if_neg c1, if_neg c5, if_neg c12, if_neg c13, if_neg c14, if_pos c15]; done) | (rw [if_neg c1, if_neg c5, if_neg c12, if_neg c13, if_neg c14, if_pos c15]; rfl))
              exact W.zret (v := 0) hx hb hr (bz_n bz0) (fun t ht hW => ⟨⟨0, u11, rfl, ⟨hq1.symm, hIu11, bz0⟩, by rw [ht]; exact hP, va_K.moved hW.alike hK, hD⟩, hS.F ht⟩) hS.2.2 dX1_armed_96
            · refine lv_aload_n hx hb dX1_armed_83 rfl (lv_at hl 0 rfl) ?_
              refine va_get (D := D) (ci := 1) (v := .int (mv u11)) (C := RX1) (T := TX1) (N := 15) hx hb hts hin hown hK hP 0 rfl rfl 2 (by decide) (hts (.fieldLink RX1 36 "ModeDeskModel" "vertical" "I") (by decide +kernel)) (fun _ h9 => h9) rfl dX1_armed_84 ?_
              refine lv_iconst (v := 4) hx hb dX1_armed_87 (by decide) ?_
              refine lv_icmp_ge (tgt := 95) hx hb dX1_armed_88 (by decide) (fun c16 => ?_) (fun c16 => ?_)
              · refine lv_iconst (v := 0) hx hb dX1_armed_95 (by decide) ?_
                have hq1 : pX1_armed u a1 = (0, u11) := (by subst eu11; unfold pX1_armed; first | (rw [if_neg c1, if_neg c5, if_neg c12, if_neg c13, if_neg c14, if_neg c15, if_pos c16]; done) | (rw [if_neg c1, if_neg c5, if_neg c12, if_neg c13, if_neg c14, if_neg c15, if_pos c16]; rfl))
                exact W.zret (v := 0) hx hb hr (bz_n bz0) (fun t ht hW => ⟨⟨0, u11, rfl, ⟨hq1.symm, hIu11, bz0⟩, by rw [ht]; exact hP, va_K.moved hW.alike hK, hD⟩, hS.F ht⟩) hS.2.2 dX1_armed_96
              · refine lv_iconst (v := 1) hx hb dX1_armed_91 (by decide) ?_
                refine lv_goto (tgt := 96) hx hb dX1_armed_92 (by decide) ?_
                have hq1 : pX1_armed u a1 = (1, u11) := (by subst eu11; unfold pX1_armed; first | (rw [if_neg c1, if_neg c5, if_neg c12, if_neg c13, if_neg c14, if_neg c15, if_neg c16]; done) | (rw [if_neg c1, if_neg c5, if_neg c12, if_neg c13, if_neg c14, if_neg c15, if_neg c16]; rfl))
                exact W.zret (v := 1) hx hb hr (bz_n bz1) (fun t ht hW => ⟨⟨1, u11, rfl, ⟨hq1.symm, hIu11, bz1⟩, by rw [ht]; exact hP, va_K.moved hW.alike hK, hD⟩, hS.F ht⟩) hS.2.2 dX1_armed_96
          · refine lv_aload_n hx hb dX1_armed_69 rfl (lv_at hl 0 rfl) ?_
            refine va_get (D := D) (ci := 1) (v := .int (mg u11)) (C := RX1) (T := TX1) (N := 15) hx hb hts hin hown hK hP 0 rfl rfl 4 (by decide) (hts (.fieldLink RX1 45 "ModeDeskModel" "armedGlide" "Z") (by decide +kernel)) (fun _ h9 => h9) rfl dX1_armed_70 ?_
            refine lv_goto (tgt := 96) hx hb dX1_armed_73 (by decide) ?_
            have hq1 : pX1_armed u a1 = ((mg u11), u11) := (by subst eu11; unfold pX1_armed; first | (rw [if_neg c1, if_neg c5, if_neg c12, if_neg c13, if_pos c14]; done) | (rw [if_neg c1, if_neg c5, if_neg c12, if_neg c13, if_pos c14]; rfl))
            exact W.zret (v := (mg u11)) hx hb hr (bz_n hIu11.1) (fun t ht hW => ⟨⟨(mg u11), u11, rfl, ⟨hq1.symm, hIu11, hIu11.1⟩, by rw [ht]; exact hP, va_K.moved hW.alike hK, hD⟩, hS.F ht⟩) hS.2.2 dX1_armed_96
        · refine lv_aload_n hx hb dX1_armed_48 rfl (lv_at hl 0 rfl) ?_
          refine va_get (D := D) (ci := 1) (v := .int (ma u11)) (C := RX1) (T := TX1) (N := 15) hx hb hts hin hown hK hP 0 rfl rfl 3 (by decide) (hts (.fieldLink RX1 42 "ModeDeskModel" "armedLateral" "I") (by decide +kernel)) (fun _ h9 => h9) rfl dX1_armed_49 ?_
          refine lv_iconst (v := 2) hx hb dX1_armed_52 (by decide) ?_
          refine lv_icmp_ne (tgt := 60) hx hb dX1_armed_53 (by decide) (fun c17 => ?_) (fun c17 => ?_)
          · refine lv_iconst (v := 0) hx hb dX1_armed_60 (by decide) ?_
            refine lv_goto (tgt := 96) hx hb dX1_armed_61 (by decide) ?_
            have hq1 : pX1_armed u a1 = (0, u11) := (by subst eu11; unfold pX1_armed; first | (rw [if_neg c1, if_neg c5, if_neg c12, if_pos c13, if_neg c17]; done) | (rw [if_neg c1, if_neg c5, if_neg c12, if_pos c13, if_neg c17]; rfl))
            exact W.zret (v := 0) hx hb hr (bz_n bz0) (fun t ht hW => ⟨⟨0, u11, rfl, ⟨hq1.symm, hIu11, bz0⟩, by rw [ht]; exact hP, va_K.moved hW.alike hK, hD⟩, hS.F ht⟩) hS.2.2 dX1_armed_96
          · refine lv_iconst (v := 1) hx hb dX1_armed_56 (by decide) ?_
            refine lv_goto (tgt := 96) hx hb dX1_armed_57 (by decide) ?_
            have hq1 : pX1_armed u a1 = (1, u11) := (by subst eu11; unfold pX1_armed; first | (rw [if_neg c1, if_neg c5, if_neg c12, if_pos c13, if_pos c17]; done) | (rw [if_neg c1, if_neg c5, if_neg c12, if_pos c13, if_pos c17]; rfl))
            exact W.zret (v := 1) hx hb hr (bz_n bz1) (fun t ht hW => ⟨⟨1, u11, rfl, ⟨hq1.symm, hIu11, bz1⟩, by rw [ht]; exact hP, va_K.moved hW.alike hK, hD⟩, hS.F ht⟩) hS.2.2 dX1_armed_96
      · refine lv_aload_n hx hb dX1_armed_27 rfl (lv_at hl 0 rfl) ?_
        refine va_get (D := D) (ci := 1) (v := .int (ma u11)) (C := RX1) (T := TX1) (N := 15) hx hb hts hin hown hK hP 0 rfl rfl 3 (by decide) (hts (.fieldLink RX1 42 "ModeDeskModel" "armedLateral" "I") (by decide +kernel)) (fun _ h9 => h9) rfl dX1_armed_28 ?_
        refine lv_iconst (v := 1) hx hb dX1_armed_31 (by decide) ?_
        refine lv_icmp_ne (tgt := 39) hx hb dX1_armed_32 (by decide) (fun c18 => ?_) (fun c18 => ?_)
        · refine lv_iconst (v := 0) hx hb dX1_armed_39 (by decide) ?_
          refine lv_goto (tgt := 96) hx hb dX1_armed_40 (by decide) ?_
          have hq1 : pX1_armed u a1 = (0, u11) := (by subst eu11; unfold pX1_armed; first | (rw [if_neg c1, if_neg c5, if_pos c12, if_neg c18]; done) | (rw [if_neg c1, if_neg c5, if_pos c12, if_neg c18]; rfl))
          exact W.zret (v := 0) hx hb hr (bz_n bz0) (fun t ht hW => ⟨⟨0, u11, rfl, ⟨hq1.symm, hIu11, bz0⟩, by rw [ht]; exact hP, va_K.moved hW.alike hK, hD⟩, hS.F ht⟩) hS.2.2 dX1_armed_96
        · refine lv_iconst (v := 1) hx hb dX1_armed_35 (by decide) ?_
          refine lv_goto (tgt := 96) hx hb dX1_armed_36 (by decide) ?_
          have hq1 : pX1_armed u a1 = (1, u11) := (by subst eu11; unfold pX1_armed; first | (rw [if_neg c1, if_neg c5, if_pos c12, if_pos c18]; done) | (rw [if_neg c1, if_neg c5, if_pos c12, if_pos c18]; rfl))
          exact W.zret (v := 1) hx hb hr (bz_n bz1) (fun t ht hW => ⟨⟨1, u11, rfl, ⟨hq1.symm, hIu11, bz1⟩, by rw [ht]; exact hP, va_K.moved hW.alike hK, hD⟩, hS.F ht⟩) hS.2.2 dX1_armed_96
def pX1_shown_79 (u : MS) (j1 j2 : Int32) : Int32 × MS := ((j1 + (32 * (mr u))), u)
def pX1_shown_63 (u : MS) (j1 j2 : Int32) : Int32 × MS := if (mh u) ≤ 0 then (pX1_shown_79 u j1 j1) else (pX1_shown_79 u (j1 + 16) j1)
def pX1_shown_47 (u : MS) (j1 j2 : Int32) : Int32 × MS := if (mf u) ≤ 0 then (pX1_shown_63 u j1 j1) else (pX1_shown_63 u (j1 + 8) j1)
def pX1_shown_32 (u : MS) (j1 j2 : Int32) : Int32 × MS := if (mw u) = 0 then (pX1_shown_47 u j1 j1) else (pX1_shown_47 u (j1 + 4) j1)
def pX1_shown_17 (u : MS) (j1 : Int32) : Int32 × MS := if (me u) = 0 then (pX1_shown_32 u j1 j1) else (pX1_shown_32 u (j1 + 2) j1)
def pX1_shown (u : MS) : Int32 × MS := if (ml (mt_ u 0)) ≤ 0 then (pX1_shown_17 (mt_ u 0) 0) else (pX1_shown_17 (mt_ u 0) 1)
set_option maxHeartbeats 4000000 in
set_option maxRecDepth 100000 in
theorem kX1_shown (l : Launch) (D : va_G) (cI cZ : ClassId) (h : Nat → Nat) (sz : Nat) (u : MS) (n : Nat) (hI : InvM n u) (hn : n ≤ 1999000) : Mi l yX1_shown wsX1_shown { frames := 0, cells := 0, slots := 0, locals := 0 } D (tyl cI cZ) (wM cI cZ h) sz u [.ref (h 0)] (fun r u9 => (r, u9) = pX1_shown u ∧ InvM n u9) := by
  refine Met.ofW (cc := cX1_shown) (maxL := 2) (ret := (some .int)) (by decide) rfl ?_
  intro p e s m args below meth c s₁ B hml hv
  obtain ⟨rfl, hsz, hP, hK, hD0⟩ := hv
  have hx := B.exec
  have hb := B.bytes
  have hr := B.returns
  have hts := atoms_spec (ws := wsX1_shown) B.pre
  have hin : ∀ w ∈ wsX10, w ∈ wsX1_shown := fun w h9 => List.mem_cons_of_mem _ (List.mem_append_right _ h9)
  have hown : s.vm.findClass RX1 = some m.cls := findClass_of_methodNamed B.named
  have hlocks := B.notSynchronized
  subst hsz
  have hD : va_D (va_A (wM cI cZ h u) s.heap.size) (wM cI cZ h u) := hD0.self (sz := s.heap.size)
  have hA : ∀ q : Nat, s.heap.size ≤ q → va_A (wM cI cZ h u) s.heap.size q := fun q h9 => Or.inr h9
  have hS : va_S (va_A (wM cI cZ h u) s.heap.size) s.heap s.heap [] := va_S.rf
  have hl := lv_entry ([.ref (h 0)]) (n := 2) (Nat.le_of_ble_eq_true rfl)
  rw [lg_entry_eq]
  generalize (lg_sl ([.ref (h 0)]) ++ List.replicate (2 - (lg_sl ([.ref (h 0)])).length) Slot.unset).toArray = ls at hl ⊢
  have hl : lv_has ls 2 [(0, .ref (h 0))] := hl
  generalize va_A (wM cI cZ h u) s.heap.size = A at hD hA hS ⊢
  have J79 : ∀ (v79 : MS) (j1 j2 : Int32) (G79 : Heap) (locs : List Loc) (ls : Array Slot), lv_has ls 2 [(0, .ref (h 0)), (1, .int j2)] → va_P D vwCl (wM cI cZ h v79) G79 → va_D A (wM cI cZ h v79) → va_S A s.heap G79 locs → va_K D vwCl (tyl cI cZ) s → InvM n v79 → pX1_shown u = pX1_shown_79 v79  j1 j2 → W p l e (headSpec wsX1_shown { frames := 0, cells := 0, slots := 0, locals := 0 }).room s m ([.ref (h 0)] : List Value).toArray below meth c G79 locs 0 0 (MQ below (va_Qi (fun r u9 => (r, u9) = pX1_shown u ∧ InvM n u9) (BW D (tyl cI cZ) A (wM cI cZ h)) A) ([.ref (h 0)] : List Value).toArray s 0 0 A) (F0 m 79 ls [.int j1]) := by
    intro v79 j1 j2 G79 locs ls hl hP hD hS hK hIv79  hq
    refine lv_istore_n (lv' := [(1, .int j1), (0, .ref (h 0))]) hx hb dX1_shown_79 rfl hl (by decide) rfl (fun ls hl => ?_)
    refine lv_iload_n hx hb dX1_shown_80 rfl (lv_at hl 0 rfl) ?_
    refine lv_bipush (v := 32) hx hb dX1_shown_81 (by decide) ?_
    refine lv_aload_n hx hb dX1_shown_83 rfl (lv_at hl 1 rfl) ?_
    refine va_get (D := D) (ci := 1) (v := .int (mr v79)) (C := RX1) (T := TX1) (N := 15) hx hb hts hin hown hK hP 0 rfl rfl 9 (by decide) (hts (.fieldLink RX1 16 "ModeDeskModel" "leader" "I") (by decide +kernel)) (fun _ h9 => h9) rfl dX1_shown_84 ?_
    refine lv_imul hx hb dX1_shown_87 ?_
    refine lv_iadd hx hb dX1_shown_88 ?_
    have hq1 : pX1_shown u = ((j1 + (32 * (mr v79))), v79) := (by rw [hq]; rfl)
    exact W.iret (v := (j1 + (32 * (mr v79)))) hx hb hr (fun t ht hW => ⟨⟨(j1 + (32 * (mr v79))), v79, rfl, ⟨hq1.symm, hIv79⟩, by rw [ht]; exact hP, va_K.moved hW.alike hK, hD⟩, hS.F ht⟩) hS.2.2 dX1_shown_89
  have J63 : ∀ (v63 : MS) (j1 j2 : Int32) (G63 : Heap) (locs : List Loc) (ls : Array Slot), lv_has ls 2 [(0, .ref (h 0)), (1, .int j2)] → va_P D vwCl (wM cI cZ h v63) G63 → va_D A (wM cI cZ h v63) → va_S A s.heap G63 locs → va_K D vwCl (tyl cI cZ) s → InvM n v63 → pX1_shown u = pX1_shown_63 v63  j1 j2 → W p l e (headSpec wsX1_shown { frames := 0, cells := 0, slots := 0, locals := 0 }).room s m ([.ref (h 0)] : List Value).toArray below meth c G63 locs 0 0 (MQ below (va_Qi (fun r u9 => (r, u9) = pX1_shown u ∧ InvM n u9) (BW D (tyl cI cZ) A (wM cI cZ h)) A) ([.ref (h 0)] : List Value).toArray s 0 0 A) (F0 m 63 ls [.int j1]) := by
    intro v63 j1 j2 G63 locs ls hl hP hD hS hK hIv63  hq
    refine lv_istore_n (lv' := [(1, .int j1), (0, .ref (h 0))]) hx hb dX1_shown_63 rfl hl (by decide) rfl (fun ls hl => ?_)
    refine lv_aload_n hx hb dX1_shown_64 rfl (lv_at hl 1 rfl) ?_
    refine va_get (D := D) (ci := 1) (v := .int (mh v63)) (C := RX1) (T := TX1) (N := 15) hx hb hts hin hown hK hP 0 rfl rfl 12 (by decide) (hts (.fieldLink RX1 39 "ModeDeskModel" "flash1" "I") (by decide +kernel)) (fun _ h9 => h9) rfl dX1_shown_65 ?_
    refine lv_if_le (tgt := 78) hx hb dX1_shown_68 (by decide) (fun c1 => ?_) (fun c1 => ?_)
    · refine lv_iload_n hx hb dX1_shown_78 rfl (lv_at hl 0 rfl) ?_
      exact J79 v63 j1 j1 G63 _ _ (lv_sub hl [1, 0] rfl) hP hD hS hK hIv63  (by rw [hq]; unfold pX1_shown_63; first | (rw [if_pos c1]; done) | (rw [if_pos c1]; rfl))
    · refine lv_iload_n hx hb dX1_shown_71 rfl (lv_at hl 0 rfl) ?_
      refine lv_bipush (v := 16) hx hb dX1_shown_72 (by decide) ?_
      refine lv_iadd hx hb dX1_shown_74 ?_
      refine lv_goto (tgt := 79) hx hb dX1_shown_75 (by decide) ?_
      exact J79 v63 (j1 + 16) j1 G63 _ _ (lv_sub hl [1, 0] rfl) hP hD hS hK hIv63  (by rw [hq]; unfold pX1_shown_63; first | (rw [if_neg c1]; done) | (rw [if_neg c1]; rfl))
  have J47 : ∀ (v47 : MS) (j1 j2 : Int32) (G47 : Heap) (locs : List Loc) (ls : Array Slot), lv_has ls 2 [(0, .ref (h 0)), (1, .int j2)] → va_P D vwCl (wM cI cZ h v47) G47 → va_D A (wM cI cZ h v47) → va_S A s.heap G47 locs → va_K D vwCl (tyl cI cZ) s → InvM n v47 → pX1_shown u = pX1_shown_47 v47  j1 j2 → W p l e (headSpec wsX1_shown { frames := 0, cells := 0, slots := 0, locals := 0 }).room s m ([.ref (h 0)] : List Value).toArray below meth c G47 locs 0 0 (MQ below (va_Qi (fun r u9 => (r, u9) = pX1_shown u ∧ InvM n u9) (BW D (tyl cI cZ) A (wM cI cZ h)) A) ([.ref (h 0)] : List Value).toArray s 0 0 A) (F0 m 47 ls [.int j1]) := by
    intro v47 j1 j2 G47 locs ls hl hP hD hS hK hIv47  hq
    refine lv_istore_n (lv' := [(1, .int j1), (0, .ref (h 0))]) hx hb dX1_shown_47 rfl hl (by decide) rfl (fun ls hl => ?_)
    refine lv_aload_n hx hb dX1_shown_48 rfl (lv_at hl 1 rfl) ?_
    refine va_get (D := D) (ci := 1) (v := .int (mf v47)) (C := RX1) (T := TX1) (N := 15) hx hb hts hin hown hK hP 0 rfl rfl 11 (by decide) (hts (.fieldLink RX1 33 "ModeDeskModel" "flash0" "I") (by decide +kernel)) (fun _ h9 => h9) rfl dX1_shown_49 ?_
    refine lv_if_le (tgt := 62) hx hb dX1_shown_52 (by decide) (fun c2 => ?_) (fun c2 => ?_)
    · refine lv_iload_n hx hb dX1_shown_62 rfl (lv_at hl 0 rfl) ?_
      exact J63 v47 j1 j1 G47 _ _ (lv_sub hl [1, 0] rfl) hP hD hS hK hIv47  (by rw [hq]; unfold pX1_shown_47; first | (rw [if_pos c2]; done) | (rw [if_pos c2]; rfl))
    · refine lv_iload_n hx hb dX1_shown_55 rfl (lv_at hl 0 rfl) ?_
      refine lv_bipush (v := 8) hx hb dX1_shown_56 (by decide) ?_
      refine lv_iadd hx hb dX1_shown_58 ?_
      refine lv_goto (tgt := 63) hx hb dX1_shown_59 (by decide) ?_
      exact J63 v47 (j1 + 8) j1 G47 _ _ (lv_sub hl [1, 0] rfl) hP hD hS hK hIv47  (by rw [hq]; unfold pX1_shown_47; first | (rw [if_neg c2]; done) | (rw [if_neg c2]; rfl))
  have J32 : ∀ (v32 : MS) (j1 j2 : Int32) (G32 : Heap) (locs : List Loc) (ls : Array Slot), lv_has ls 2 [(0, .ref (h 0)), (1, .int j2)] → va_P D vwCl (wM cI cZ h v32) G32 → va_D A (wM cI cZ h v32) → va_S A s.heap G32 locs → va_K D vwCl (tyl cI cZ) s → InvM n v32 → bz j2 → pX1_shown u = pX1_shown_32 v32  j1 j2 → W p l e (headSpec wsX1_shown { frames := 0, cells := 0, slots := 0, locals := 0 }).room s m ([.ref (h 0)] : List Value).toArray below meth c G32 locs 0 0 (MQ below (va_Qi (fun r u9 => (r, u9) = pX1_shown u ∧ InvM n u9) (BW D (tyl cI cZ) A (wM cI cZ h)) A) ([.ref (h 0)] : List Value).toArray s 0 0 A) (F0 m 32 ls [.int j1]) := by
    intro v32 j1 j2 G32 locs ls hl hP hD hS hK hIv32 hzj2 hq
    refine lv_istore_n (lv' := [(1, .int j1), (0, .ref (h 0))]) hx hb dX1_shown_32 rfl hl (by decide) rfl (fun ls hl => ?_)
    refine lv_aload_n hx hb dX1_shown_33 rfl (lv_at hl 1 rfl) ?_
    refine va_get (D := D) (ci := 1) (v := .int (mw v32)) (C := RX1) (T := TX1) (N := 15) hx hb hts hin hown hK hP 0 rfl rfl 6 (by decide) (hts (.fieldLink RX1 59 "ModeDeskModel" "warning" "Z") (by decide +kernel)) (fun _ h9 => h9) rfl dX1_shown_34 ?_
    refine lv_if_eq (tgt := 46) hx hb dX1_shown_37 (by decide) (fun c3 => ?_) (fun c3 => ?_)
    · refine lv_iload_n hx hb dX1_shown_46 rfl (lv_at hl 0 rfl) ?_
      exact J47 v32 j1 j1 G32 _ _ (lv_sub hl [1, 0] rfl) hP hD hS hK hIv32  (by rw [hq]; unfold pX1_shown_32; first | (rw [if_pos c3]; done) | (rw [if_pos c3]; rfl))
    · refine lv_iload_n hx hb dX1_shown_40 rfl (lv_at hl 0 rfl) ?_
      refine lv_iconst (v := 4) hx hb dX1_shown_41 (by decide) ?_
      refine lv_iadd hx hb dX1_shown_42 ?_
      refine lv_goto (tgt := 47) hx hb dX1_shown_43 (by decide) ?_
      exact J47 v32 (j1 + 4) j1 G32 _ _ (lv_sub hl [1, 0] rfl) hP hD hS hK hIv32  (by rw [hq]; unfold pX1_shown_32; first | (rw [if_neg c3]; done) | (rw [if_neg c3]; rfl))
  have J17 : ∀ (v17 : MS) (j1 : Int32) (G17 : Heap) (locs : List Loc) (ls : Array Slot), lv_has ls 2 [(0, .ref (h 0))] → va_P D vwCl (wM cI cZ h v17) G17 → va_D A (wM cI cZ h v17) → va_S A s.heap G17 locs → va_K D vwCl (tyl cI cZ) s → InvM n v17 → bz j1 → pX1_shown u = pX1_shown_17 v17  j1 → W p l e (headSpec wsX1_shown { frames := 0, cells := 0, slots := 0, locals := 0 }).room s m ([.ref (h 0)] : List Value).toArray below meth c G17 locs 0 0 (MQ below (va_Qi (fun r u9 => (r, u9) = pX1_shown u ∧ InvM n u9) (BW D (tyl cI cZ) A (wM cI cZ h)) A) ([.ref (h 0)] : List Value).toArray s 0 0 A) (F0 m 17 ls [.int j1]) := by
    intro v17 j1 G17 locs ls hl hP hD hS hK hIv17 hzj1 hq
    refine lv_istore_n (lv' := [(1, .int j1), (0, .ref (h 0))]) hx hb dX1_shown_17 rfl hl (by decide) rfl (fun ls hl => ?_)
    refine lv_aload_n hx hb dX1_shown_18 rfl (lv_at hl 1 rfl) ?_
    refine va_get (D := D) (ci := 1) (v := .int (me v17)) (C := RX1) (T := TX1) (N := 15) hx hb hts hin hown hK hP 0 rfl rfl 5 (by decide) (hts (.fieldLink RX1 62 "ModeDeskModel" "engaged" "Z") (by decide +kernel)) (fun _ h9 => h9) rfl dX1_shown_19 ?_
    refine lv_if_eq (tgt := 31) hx hb dX1_shown_22 (by decide) (fun c4 => ?_) (fun c4 => ?_)
    · refine lv_iload_n hx hb dX1_shown_31 rfl (lv_at hl 0 rfl) ?_
      exact J32 v17 j1 j1 G17 _ _ (lv_sub hl [1, 0] rfl) hP hD hS hK hIv17 hzj1 (by rw [hq]; unfold pX1_shown_17; first | (rw [if_pos c4]; done) | (rw [if_pos c4]; rfl))
    · refine lv_iload_n hx hb dX1_shown_25 rfl (lv_at hl 0 rfl) ?_
      refine lv_iconst (v := 2) hx hb dX1_shown_26 (by decide) ?_
      refine lv_iadd hx hb dX1_shown_27 ?_
      refine lv_goto (tgt := 32) hx hb dX1_shown_28 (by decide) ?_
      exact J32 v17 (j1 + 2) j1 G17 _ _ (lv_sub hl [1, 0] rfl) hP hD hS hK hIv17 hzj1 (by rw [hq]; unfold pX1_shown_17; first | (rw [if_neg c4]; done) | (rw [if_neg c4]; rfl))
  refine lv_aload_n hx hb dX1_shown_0 rfl (lv_at hl 0 rfl) ?_
  refine lv_iconst (v := 0) hx hb dX1_shown_1 (by decide) ?_
  refine va_put (D := D) (ci := 1) (v := .int 0) (ty := .int) (C := RX1) (T := TX1) (N := 15) hx hb hts hin tyX1 tyX1_ok nmX1 hown hK hP hD hS 0 rfl rfl 0 (by decide) (hts (.fieldLink RX1 20 "ModeDeskModel" "thrown" "I") (by decide +kernel)) (fun _ h9 => h9) rfl (by decide +kernel) rfl rfl (Nat.le_of_ble_eq_true rfl) dX1_shown_2 (fun H6 locs hP hD hS => ?_)
  obtain ⟨u5, eu5⟩ : ∃ y : MS, y = mt_ u 0 := ⟨_, rfl⟩
  have hP : va_P D vwCl (wM cI cZ h u5) H6 := by rw [eu5]; exact hP
  have hD : va_D A (wM cI cZ h u5) := by rw [eu5]; exact hD
  have hIu5 : InvM n u5 := by rw [eu5]; exact InvM.st hI _
  refine lv_aload_n hx hb dX1_shown_5 rfl (lv_at hl 0 rfl) ?_
  refine va_get (D := D) (ci := 1) (v := .int (ml u5)) (C := RX1) (T := TX1) (N := 15) hx hb hts hin hown hK hP 0 rfl rfl 1 (by decide) (hts (.fieldLink RX1 26 "ModeDeskModel" "lateral" "I") (by decide +kernel)) (fun _ h9 => h9) rfl dX1_shown_6 ?_
  refine lv_if_le (tgt := 16) hx hb dX1_shown_9 (by decide) (fun c7 => ?_) (fun c7 => ?_)
  · refine lv_iconst (v := 0) hx hb dX1_shown_16 (by decide) ?_
    exact J17 u5 0 H6 _ _ (lv_sub hl [0] rfl) hP hD hS hK hIu5 bz0 (by subst eu5; unfold pX1_shown; first | (rw [if_pos c7]; done) | (rw [if_pos c7]; rfl))
  · refine lv_iconst (v := 1) hx hb dX1_shown_12 (by decide) ?_
    refine lv_goto (tgt := 17) hx hb dX1_shown_13 (by decide) ?_
    exact J17 u5 1 H6 _ _ (lv_sub hl [0] rfl) hP hD hS hK hIu5 bz1 (by subst eu5; unfold pX1_shown; first | (rw [if_neg c7]; done) | (rw [if_neg c7]; rfl))
def pX1_kept (u : MS) (a1 a2 : Int32) : Int32 × MS := if a1 < 0 then (((-1), mt_ u 0)) else (if (mk (mt_ u 0)) ≤ a1 then (((-1), mt_ u 0)) else (if 299 < a1 then (((-1), mt_ u 0)) else (if a2 < 0 then (((-1), mt_ u 0)) else (if a2 ≤ 3 then (((mR (mt_ u 0) (Int32.toNatClampNeg ((4 * a1) + a2))), mt_ u 0)) else (((-1), mt_ u 0))))))
set_option maxHeartbeats 4000000 in
set_option maxRecDepth 100000 in
theorem kX1_kept (l : Launch) (D : va_G) (cI cZ : ClassId) (h : Nat → Nat) (sz : Nat) (u : MS) (a1 a2 : Int32) (n : Nat) (hI : InvM n u) (hn : n ≤ 1999000) : Mi l yX1_kept wsX1_kept { frames := 0, cells := 0, slots := 0, locals := 0 } D (tyl cI cZ) (wM cI cZ h) sz u [.ref (h 0), .int a1, .int a2] (fun r u9 => (r, u9) = pX1_kept u a1 a2 ∧ InvM n u9) := by
  refine Met.ofW (cc := cX1_kept) (maxL := 3) (ret := (some .int)) (by decide) rfl ?_
  intro p e s m args below meth c s₁ B hml hv
  obtain ⟨rfl, hsz, hP, hK, hD0⟩ := hv
  have hx := B.exec
  have hb := B.bytes
  have hr := B.returns
  have hts := atoms_spec (ws := wsX1_kept) B.pre
  have hin : ∀ w ∈ wsX10, w ∈ wsX1_kept := fun w h9 => List.mem_cons_of_mem _ (List.mem_append_right _ h9)
  have hown : s.vm.findClass RX1 = some m.cls := findClass_of_methodNamed B.named
  have hlocks := B.notSynchronized
  subst hsz
  have hD : va_D (va_A (wM cI cZ h u) s.heap.size) (wM cI cZ h u) := hD0.self (sz := s.heap.size)
  have hA : ∀ q : Nat, s.heap.size ≤ q → va_A (wM cI cZ h u) s.heap.size q := fun q h9 => Or.inr h9
  have hS : va_S (va_A (wM cI cZ h u) s.heap.size) s.heap s.heap [] := va_S.rf
  have hl := lv_entry ([.ref (h 0), .int a1, .int a2]) (n := 3) (Nat.le_of_ble_eq_true rfl)
  rw [lg_entry_eq]
  generalize (lg_sl ([.ref (h 0), .int a1, .int a2]) ++ List.replicate (3 - (lg_sl ([.ref (h 0), .int a1, .int a2])).length) Slot.unset).toArray = ls at hl ⊢
  have hl : lv_has ls 3 [(0, .ref (h 0)), (1, .int a1), (2, .int a2)] := hl
  generalize va_A (wM cI cZ h u) s.heap.size = A at hD hA hS ⊢
  refine lv_aload_n hx hb dX1_kept_0 rfl (lv_at hl 0 rfl) ?_
  refine lv_iconst (v := 0) hx hb dX1_kept_1 (by decide) ?_
  refine va_put (D := D) (ci := 1) (v := .int 0) (ty := .int) (C := RX1) (T := TX1) (N := 15) hx hb hts hin tyX1 tyX1_ok nmX1 hown hK hP hD hS 0 rfl rfl 0 (by decide) (hts (.fieldLink RX1 20 "ModeDeskModel" "thrown" "I") (by decide +kernel)) (fun _ h9 => h9) rfl (by decide +kernel) rfl rfl (Nat.le_of_ble_eq_true rfl) dX1_kept_2 (fun H2 locs hP hD hS => ?_)
  obtain ⟨u1, eu1⟩ : ∃ y : MS, y = mt_ u 0 := ⟨_, rfl⟩
  have hP : va_P D vwCl (wM cI cZ h u1) H2 := by rw [eu1]; exact hP
  have hD : va_D A (wM cI cZ h u1) := by rw [eu1]; exact hD
  have hIu1 : InvM n u1 := by rw [eu1]; exact InvM.st hI _
  refine lv_iload_n hx hb dX1_kept_5 rfl (lv_at hl 1 rfl) ?_
  refine lv_if_lt (tgt := 33) hx hb dX1_kept_6 (by decide) (fun c3 => ?_) (fun c3 => ?_)
  · refine lv_iconst (v := (-1)) hx hb dX1_kept_33 (by decide) ?_
    refine lv_goto (tgt := 47) hx hb dX1_kept_34 (by decide) ?_
    have hq1 : pX1_kept u a1 a2 = ((-1), u1) := (by subst eu1; unfold pX1_kept; first | (rw [if_pos c3]; done) | (rw [if_pos c3]; rfl))
    exact W.iret (v := (-1)) hx hb hr (fun t ht hW => ⟨⟨(-1), u1, rfl, ⟨hq1.symm, hIu1⟩, by rw [ht]; exact hP, va_K.moved hW.alike hK, hD⟩, hS.F ht⟩) hS.2.2 dX1_kept_47
  · refine lv_iload_n hx hb dX1_kept_9 rfl (lv_at hl 1 rfl) ?_
    refine lv_aload_n hx hb dX1_kept_10 rfl (lv_at hl 0 rfl) ?_
    refine va_get (D := D) (ci := 1) (v := .int (mk u1)) (C := RX1) (T := TX1) (N := 15) hx hb hts hin hown hK hP 0 rfl rfl 13 (by decide) (hts (.fieldLink RX1 23 "ModeDeskModel" "kept" "I") (by decide +kernel)) (fun _ h9 => h9) rfl dX1_kept_11 ?_
    refine lv_icmp_ge (tgt := 33) hx hb dX1_kept_14 (by decide) (fun c4 => ?_) (fun c4 => ?_)
    · refine lv_iconst (v := (-1)) hx hb dX1_kept_33 (by decide) ?_
      refine lv_goto (tgt := 47) hx hb dX1_kept_34 (by decide) ?_
      have hq1 : pX1_kept u a1 a2 = ((-1), u1) := (by subst eu1; unfold pX1_kept; first | (rw [if_neg c3, if_pos c4]; done) | (rw [if_neg c3, if_pos c4]; rfl))
      exact W.iret (v := (-1)) hx hb hr (fun t ht hW => ⟨⟨(-1), u1, rfl, ⟨hq1.symm, hIu1⟩, by rw [ht]; exact hP, va_K.moved hW.alike hK, hD⟩, hS.F ht⟩) hS.2.2 dX1_kept_47
    · refine lv_iload_n hx hb dX1_kept_17 rfl (lv_at hl 1 rfl) ?_
      refine lv_sipush (v := 299) hx hb dX1_kept_18 (by decide) ?_
      refine lv_icmp_gt (tgt := 33) hx hb dX1_kept_21 (by decide) (fun c5 => ?_) (fun c5 => ?_)
      · refine lv_iconst (v := (-1)) hx hb dX1_kept_33 (by decide) ?_
        refine lv_goto (tgt := 47) hx hb dX1_kept_34 (by decide) ?_
        have hq1 : pX1_kept u a1 a2 = ((-1), u1) := (by subst eu1; unfold pX1_kept; first | (rw [if_neg c3, if_neg c4, if_pos c5]; done) | (rw [if_neg c3, if_neg c4, if_pos c5]; rfl))
        exact W.iret (v := (-1)) hx hb hr (fun t ht hW => ⟨⟨(-1), u1, rfl, ⟨hq1.symm, hIu1⟩, by rw [ht]; exact hP, va_K.moved hW.alike hK, hD⟩, hS.F ht⟩) hS.2.2 dX1_kept_47
      · refine lv_iload_n hx hb dX1_kept_24 rfl (lv_at hl 2 rfl) ?_
        refine lv_if_lt (tgt := 33) hx hb dX1_kept_25 (by decide) (fun c6 => ?_) (fun c6 => ?_)
        · refine lv_iconst (v := (-1)) hx hb dX1_kept_33 (by decide) ?_
          refine lv_goto (tgt := 47) hx hb dX1_kept_34 (by decide) ?_
          have hq1 : pX1_kept u a1 a2 = ((-1), u1) := (by subst eu1; unfold pX1_kept; first | (rw [if_neg c3, if_neg c4, if_neg c5, if_pos c6]; done) | (rw [if_neg c3, if_neg c4, if_neg c5, if_pos c6]; rfl))
          exact W.iret (v := (-1)) hx hb hr (fun t ht hW => ⟨⟨(-1), u1, rfl, ⟨hq1.symm, hIu1⟩, by rw [ht]; exact hP, va_K.moved hW.alike hK, hD⟩, hS.F ht⟩) hS.2.2 dX1_kept_47
        · refine lv_iload_n hx hb dX1_kept_28 rfl (lv_at hl 2 rfl) ?_
          refine lv_iconst (v := 3) hx hb dX1_kept_29 (by decide) ?_
          refine lv_icmp_le (tgt := 37) hx hb dX1_kept_30 (by decide) (fun c7 => ?_) (fun c7 => ?_)
          · refine lv_aload_n hx hb dX1_kept_37 rfl (lv_at hl 0 rfl) ?_
            refine va_get (D := D) (ci := 1) (v := .ref (h 2)) (C := RX1) (T := TX1) (N := 15) hx hb hts hin hown hK hP 0 rfl rfl 14 (by decide) (hts (.fieldLink RX1 13 "ModeDeskModel" "rows" "[I") (by decide +kernel)) (fun _ h9 => h9) rfl dX1_kept_38 ?_
            refine lv_iconst (v := 4) hx hb dX1_kept_41 (by decide) ?_
            refine lv_iload_n hx hb dX1_kept_42 rfl (lv_at hl 1 rfl) ?_
            refine lv_imul hx hb dX1_kept_43 ?_
            refine lv_iload_n hx hb dX1_kept_44 rfl (lv_at hl 2 rfl) ?_
            refine lv_iadd hx hb dX1_kept_45 ?_
            refine va_iald hx hb hK hP 2 0 rfl rfl (vi_k c3 c5 c6 c7) dX1_kept_46 ?_
            have hq1 : pX1_kept u a1 a2 = ((mR u1 (Int32.toNatClampNeg ((4 * a1) + a2))), u1) := (by subst eu1; unfold pX1_kept; first | (rw [if_neg c3, if_neg c4, if_neg c5, if_neg c6, if_pos c7]; done) | (rw [if_neg c3, if_neg c4, if_neg c5, if_neg c6, if_pos c7]; rfl))
            exact W.iret (v := (mR u1 (Int32.toNatClampNeg ((4 * a1) + a2)))) hx hb hr (fun t ht hW => ⟨⟨(mR u1 (Int32.toNatClampNeg ((4 * a1) + a2))), u1, rfl, ⟨hq1.symm, hIu1⟩, by rw [ht]; exact hP, va_K.moved hW.alike hK, hD⟩, hS.F ht⟩) hS.2.2 dX1_kept_47
          · refine lv_iconst (v := (-1)) hx hb dX1_kept_33 (by decide) ?_
            refine lv_goto (tgt := 47) hx hb dX1_kept_34 (by decide) ?_
            have hq1 : pX1_kept u a1 a2 = ((-1), u1) := (by subst eu1; unfold pX1_kept; first | (rw [if_neg c3, if_neg c4, if_neg c5, if_neg c6, if_neg c7]; done) | (rw [if_neg c3, if_neg c4, if_neg c5, if_neg c6, if_neg c7]; rfl))
            exact W.iret (v := (-1)) hx hb hr (fun t ht hW => ⟨⟨(-1), u1, rfl, ⟨hq1.symm, hIu1⟩, by rw [ht]; exact hP, va_K.moved hW.alike hK, hD⟩, hS.F ht⟩) hS.2.2 dX1_kept_47
def pX1_measure (u : MS) (a1 : Int32) : Int32 × MS := if a1 < 0 then ((0, (pX1_good u 0).2)) else (if 6 < a1 then ((0, (pX1_good u 0).2)) else (((mV ((pX1_good u 1).2) (Int32.toNatClampNeg a1)), (pX1_good u 1).2)))
set_option maxHeartbeats 4000000 in
set_option maxRecDepth 100000 in
theorem kX1_measure (l : Launch) (D : va_G) (cI cZ : ClassId) (h : Nat → Nat) (sz : Nat) (u : MS) (a1 : Int32) (n : Nat) (hI : InvM n u) (hn : n ≤ 1999000) : Mi l yX1_measure wsX1_measure { frames := 1, cells := 0, slots := 0, locals := 21 } D (tyl cI cZ) (wM cI cZ h) sz u [.ref (h 0), .int a1] (fun r u9 => (r, u9) = pX1_measure u a1 ∧ InvM n u9) := by
  refine Met.ofW (cc := cX1_measure) (maxL := 2) (ret := (some .int)) (by decide) rfl ?_
  intro p e s m args below meth c s₁ B hml hv
  obtain ⟨rfl, hsz, hP, hK, hD0⟩ := hv
  have hx := B.exec
  have hb := B.bytes
  have hr := B.returns
  have hts := atoms_spec (ws := wsX1_measure) B.pre
  have hin : ∀ w ∈ wsX10, w ∈ wsX1_measure := fun w h9 => List.mem_cons_of_mem _ (List.mem_append_right _ h9)
  have hown : s.vm.findClass RX1 = some m.cls := findClass_of_methodNamed B.named
  have hlocks := B.notSynchronized
  subst hsz
  have hD : va_D (va_A (wM cI cZ h u) s.heap.size) (wM cI cZ h u) := hD0.self (sz := s.heap.size)
  have hA : ∀ q : Nat, s.heap.size ≤ q → va_A (wM cI cZ h u) s.heap.size q := fun q h9 => Or.inr h9
  have hS : va_S (va_A (wM cI cZ h u) s.heap.size) s.heap s.heap [] := va_S.rf
  have hl := lv_entry ([.ref (h 0), .int a1]) (n := 2) (Nat.le_of_ble_eq_true rfl)
  rw [lg_entry_eq]
  generalize (lg_sl ([.ref (h 0), .int a1]) ++ List.replicate (2 - (lg_sl ([.ref (h 0), .int a1])).length) Slot.unset).toArray = ls at hl ⊢
  have hl : lv_has ls 2 [(0, .ref (h 0)), (1, .int a1)] := hl
  generalize va_A (wM cI cZ h u) s.heap.size = A at hD hA hS ⊢
  refine lv_aload_n hx hb dX1_measure_0 rfl (lv_at hl 0 rfl) ?_
  refine lv_iload_n hx hb dX1_measure_1 rfl (lv_at hl 1 rfl) ?_
  refine lv_if_lt (tgt := 15) hx hb dX1_measure_2 (by decide) (fun c1 => ?_) (fun c1 => ?_)
  · refine lv_iconst (v := 0) hx hb dX1_measure_15 (by decide) ?_
    have hFc := va_free (wc := wM cI cZ h u) hD hS hA [0, 1, 2] rfl
    refine va_calli (va_runV (As := [.int 0]) (rest := []) ⟨hx, hb, hml, hown, hts⟩ (kX1_good l D cI cZ h s.heap.size u 0 n hI (by omega) bz0) (cwV 1 hts gX1_measure_X1_good rfl rfl rfl (by decide +kernel) ⟨Nat.le_of_ble_eq_true rfl, Nat.le_of_ble_eq_true rfl⟩) ⟨bl_W, va_recv hK hP (ci := 1) (q0 := 0) rfl rfl, pr_W hP hK hD⟩ rfl rfl hl.1 rfl (lv_room (Nat.le_of_ble_eq_true rfl)) dX1_measure_16 ⟨Nat.zero_le _, Nat.zero_le _⟩) hS (fun q _ h9 => hFc q h9) hFc (fun r2 u4 t H3 locs ht hvm hw hB hz1 hk1 hS => ?_)
    obtain ⟨hP, hK, hD⟩ := af_W hB ht hvm hFc
    clear hFc hB
    obtain ⟨e9, hIu4, br2⟩ := hw
    have er2 : r2 = (pX1_good u 0).1 := congrArg Prod.fst e9
    have eu4 : u4 = (pX1_good u 0).2 := congrArg Prod.snd e9
    clear e9
    have e9 : r2 = 0 := er2.trans (by rfl)
    clear er2
    subst e9
    refine lv_if_eq (tgt := 31) hx hb dX1_measure_19 (by decide) (fun _ => ?_) (fun c9 => absurd (by decide) c9)
    refine lv_iconst (v := 0) hx hb dX1_measure_31 (by decide) ?_
    have hq1 : pX1_measure u a1 = (0, u4) := (by subst eu4; unfold pX1_measure; first | (rw [if_pos c1]; done) | (rw [if_pos c1]; rfl))
    exact W.iret (v := 0) hx hb hr (fun t ht hW => ⟨⟨0, u4, rfl, ⟨hq1.symm, hIu4⟩, by rw [ht]; exact hP, va_K.moved hW.alike hK, hD⟩, hS.F ht⟩) hS.2.2 dX1_measure_32
  · refine lv_iload_n hx hb dX1_measure_5 rfl (lv_at hl 1 rfl) ?_
    refine lv_bipush (v := 6) hx hb dX1_measure_6 (by decide) ?_
    refine lv_icmp_gt (tgt := 15) hx hb dX1_measure_8 (by decide) (fun c5 => ?_) (fun c5 => ?_)
    · refine lv_iconst (v := 0) hx hb dX1_measure_15 (by decide) ?_
      have hFc := va_free (wc := wM cI cZ h u) hD hS hA [0, 1, 2] rfl
      refine va_calli (va_runV (As := [.int 0]) (rest := []) ⟨hx, hb, hml, hown, hts⟩ (kX1_good l D cI cZ h s.heap.size u 0 n hI (by omega) bz0) (cwV 1 hts gX1_measure_X1_good rfl rfl rfl (by decide +kernel) ⟨Nat.le_of_ble_eq_true rfl, Nat.le_of_ble_eq_true rfl⟩) ⟨bl_W, va_recv hK hP (ci := 1) (q0 := 0) rfl rfl, pr_W hP hK hD⟩ rfl rfl hl.1 rfl (lv_room (Nat.le_of_ble_eq_true rfl)) dX1_measure_16 ⟨Nat.zero_le _, Nat.zero_le _⟩) hS (fun q _ h9 => hFc q h9) hFc (fun r6 u8 t H7 locs ht hvm hw hB hz1 hk1 hS => ?_)
      obtain ⟨hP, hK, hD⟩ := af_W hB ht hvm hFc
      clear hFc hB
      obtain ⟨e9, hIu8, br6⟩ := hw
      have er6 : r6 = (pX1_good u 0).1 := congrArg Prod.fst e9
      have eu8 : u8 = (pX1_good u 0).2 := congrArg Prod.snd e9
      clear e9
      have e9 : r6 = 0 := er6.trans (by rfl)
      clear er6
      subst e9
      refine lv_if_eq (tgt := 31) hx hb dX1_measure_19 (by decide) (fun _ => ?_) (fun c9 => absurd (by decide) c9)
      refine lv_iconst (v := 0) hx hb dX1_measure_31 (by decide) ?_
      have hq1 : pX1_measure u a1 = (0, u8) := (by subst eu8; unfold pX1_measure; first | (rw [if_neg c1, if_pos c5]; done) | (rw [if_neg c1, if_pos c5]; rfl))
      exact W.iret (v := 0) hx hb hr (fun t ht hW => ⟨⟨0, u8, rfl, ⟨hq1.symm, hIu8⟩, by rw [ht]; exact hP, va_K.moved hW.alike hK, hD⟩, hS.F ht⟩) hS.2.2 dX1_measure_32
    · refine lv_iconst (v := 1) hx hb dX1_measure_11 (by decide) ?_
      refine lv_goto (tgt := 16) hx hb dX1_measure_12 (by decide) ?_
      have hFc := va_free (wc := wM cI cZ h u) hD hS hA [0, 1, 2] rfl
      refine va_calli (va_runV (As := [.int 1]) (rest := []) ⟨hx, hb, hml, hown, hts⟩ (kX1_good l D cI cZ h s.heap.size u 1 n hI (by omega) bz1) (cwV 1 hts gX1_measure_X1_good rfl rfl rfl (by decide +kernel) ⟨Nat.le_of_ble_eq_true rfl, Nat.le_of_ble_eq_true rfl⟩) ⟨bl_W, va_recv hK hP (ci := 1) (q0 := 0) rfl rfl, pr_W hP hK hD⟩ rfl rfl hl.1 rfl (lv_room (Nat.le_of_ble_eq_true rfl)) dX1_measure_16 ⟨Nat.zero_le _, Nat.zero_le _⟩) hS (fun q _ h9 => hFc q h9) hFc (fun r9 u11 t H10 locs ht hvm hw hB hz1 hk1 hS => ?_)
      obtain ⟨hP, hK, hD⟩ := af_W hB ht hvm hFc
      clear hFc hB
      obtain ⟨e9, hIu11, br9⟩ := hw
      have er9 : r9 = (pX1_good u 1).1 := congrArg Prod.fst e9
      have eu11 : u11 = (pX1_good u 1).2 := congrArg Prod.snd e9
      clear e9
      have e9 : r9 = 1 := er9.trans (by rfl)
      clear er9
      subst e9
      refine lv_if_eq (tgt := 31) hx hb dX1_measure_19 (by decide) (fun c9 => absurd c9 (by decide)) (fun _ => ?_)
      refine lv_aload_n hx hb dX1_measure_22 rfl (lv_at hl 0 rfl) ?_
      refine va_get (D := D) (ci := 1) (v := .ref (h 1)) (C := RX1) (T := TX1) (N := 15) hx hb hts hin hown hK hP 0 rfl rfl 10 (by decide) (hts (.fieldLink RX1 7 "ModeDeskModel" "values" "[I") (by decide +kernel)) (fun _ h9 => h9) rfl dX1_measure_23 ?_
      refine lv_iload_n hx hb dX1_measure_26 rfl (lv_at hl 1 rfl) ?_
      refine va_iald hx hb hK hP 1 0 rfl rfl (vi_7 c1 c5) dX1_measure_27 ?_
      refine lv_goto (tgt := 32) hx hb dX1_measure_28 (by decide) ?_
      have hq1 : pX1_measure u a1 = ((mV u11 (Int32.toNatClampNeg a1)), u11) := (by subst eu11; unfold pX1_measure; first | (rw [if_neg c1, if_neg c5]; done) | (rw [if_neg c1, if_neg c5]; rfl))
      exact W.iret (v := (mV u11 (Int32.toNatClampNeg a1))) hx hb hr (fun t ht hW => ⟨⟨(mV u11 (Int32.toNatClampNeg a1)), u11, rfl, ⟨hq1.symm, hIu11⟩, by rw [ht]; exact hP, va_K.moved hW.alike hK, hD⟩, hS.F ht⟩) hS.2.2 dX1_measure_32
