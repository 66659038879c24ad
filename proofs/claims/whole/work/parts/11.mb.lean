def pX1_rule_260 (u : MS) (j1 j2 : Int32) : Int32 := if (mv u) = 2 then (if (mV u (Int32.toNatClampNeg 4)) ≤ 400 then (0) else (10)) else (0)
def pX1_rule_239 (u : MS) (j1 j2 : Int32) : Int32 := if (mv u) = 5 then (if (pX1_apart u) ≤ 400 then (pX1_rule_260 u j1 j2) else (9)) else (pX1_rule_260 u j1 j2)
def pX1_rule_219 (u : MS) (j1 j2 : Int32) : Int32 := if (mv u) = 5 then (if 20 < (pX1_apart u) then (pX1_rule_239 u j1 j2) else (8)) else (pX1_rule_239 u j1 j2)
def pX1_rule_191 (u : MS) (j1 j2 : Int32) : Int32 := if (mv u) ≤ 0 then (pX1_rule_219 u j1 j2) else (if 4 ≤ (mv u) then (pX1_rule_219 u j1 j2) else (if 400 < (pX1_apart u) then (pX1_rule_219 u j1 j2) else (7)))
def pX1_rule_155 (u : MS) (j1 j2 : Int32) : Int32 := if (mg u) = 0 then (pX1_rule_191 u j1 j2) else (if (ml u) = 4 then (if j2 = 0 then (pX1_rule_191 u j1 j2) else (if 80 < (pX1_size (mV u (Int32.toNatClampNeg 1))) then (pX1_rule_191 u j1 j2) else (6))) else (pX1_rule_191 u j1 j2))
def pX1_rule_127 (u : MS) (j1 j2 : Int32) : Int32 := if (ma u) = 2 then (if j1 = 0 then (pX1_rule_155 u j1 j2) else (if 100 < (pX1_size (mV u (Int32.toNatClampNeg 0))) then (pX1_rule_155 u j1 j2) else (5))) else (pX1_rule_155 u j1 j2)
def pX1_rule_98 (u : MS) (j1 j2 : Int32) : Int32 := if (ma u) = 1 then (if j1 = 0 then (pX1_rule_127 u j1 j2) else (if 150 < (pX1_size (mV u (Int32.toNatClampNeg 0))) then (pX1_rule_127 u j1 j2) else (4))) else (pX1_rule_127 u j1 j2)
def pX1_rule_75 (u : MS) (j1 j2 : Int32) : Int32 := if (mv u) = 6 then (if j2 = 0 then (3) else (if (ml u) = 4 then (pX1_rule_98 u j1 j2) else (3))) else (pX1_rule_98 u j1 j2)
def pX1_rule_53 (u : MS) (j1 j2 : Int32) : Int32 := if (ml u) = 3 then (if j1 = 0 then (2) else (pX1_rule_75 u j1 j2)) else (if (ml u) = 4 then (if j1 = 0 then (2) else (pX1_rule_75 u j1 j2)) else (pX1_rule_75 u j1 j2))
def pX1_rule_32 (u : MS) (j1 j2 : Int32) : Int32 := if (ml u) ≤ 0 then (pX1_rule_53 u j2 j1) else (if (pX1_isBad u (mr u)) = 0 then (pX1_rule_53 u j2 j1) else (1))
def pX1_rule_15 (u : MS) (j1 : Int32) : Int32 := if (mV u (Int32.toNatClampNeg 6)) = 1 then (pX1_rule_32 u 1 j1) else (pX1_rule_32 u 0 j1)
def pX1_rule (u : MS) : Int32 := if (mV u (Int32.toNatClampNeg 5)) = 1 then (pX1_rule_15 u 1) else (pX1_rule_15 u 0)
set_option maxHeartbeats 4000000 in
set_option maxRecDepth 100000 in
theorem kX1_rule (l : Launch) (D : va_G) (cI cZ : ClassId) (h : Nat → Nat) (sz : Nat) (u : MS) (n : Nat) (hI : InvM n u) (hn : n ≤ 1999990) : Mi l yX1_rule wsX1_rule { frames := 2, cells := 0, slots := 0, locals := 40 } D (tyl cI cZ) (wM cI cZ h) sz u [.ref (h 0)] (fun r u9 => r = pX1_rule u ∧ u9 = u) := by
  refine Met.ofW (cc := cX1_rule) (maxL := 3) (ret := (some .int)) (by decide) rfl ?_
  intro p e s m args below meth c s₁ B hml hv
  obtain ⟨rfl, hsz, hP, hK, hD0⟩ := hv
  have hx := B.exec
  have hb := B.bytes
  have hr := B.returns
  have hts := atoms_spec (ws := wsX1_rule) B.pre
  have hin : ∀ w ∈ wsX10, w ∈ wsX1_rule := fun w h9 => List.mem_cons_of_mem _ (List.mem_append_right _ h9)
  have hown : s.vm.findClass RX1 = some m.cls := findClass_of_methodNamed B.named
  have hlocks := B.notSynchronized
  subst hsz
  have hD : va_D (va_A (wM cI cZ h u) s.heap.size) (wM cI cZ h u) := hD0.self (sz := s.heap.size)
  have hA : ∀ q : Nat, s.heap.size ≤ q → va_A (wM cI cZ h u) s.heap.size q := fun q h9 => Or.inr h9
  have hS : va_S (va_A (wM cI cZ h u) s.heap.size) s.heap s.heap [] := va_S.rf
  have hl := lv_entry ([.ref (h 0)]) (n := 3) (Nat.le_of_ble_eq_true rfl)
  rw [lg_entry_eq]
  generalize (lg_sl ([.ref (h 0)]) ++ List.replicate (3 - (lg_sl ([.ref (h 0)])).length) Slot.unset).toArray = ls at hl ⊢
  have hl : lv_has ls 3 [(0, .ref (h 0))] := hl
  generalize va_A (wM cI cZ h u) s.heap.size = A at hD hA hS ⊢
  have J260 : ∀  (j1 j2 : Int32) (G260 : Heap) (locs : List Loc) (ls : Array Slot), lv_has ls 3 [(0, .ref (h 0)), (1, .int j1), (2, .int j2)] → va_P D vwCl (wM cI cZ h u) G260 → va_D A (wM cI cZ h u) → va_S A s.heap G260 locs → va_K D vwCl (tyl cI cZ) s → bz j1 → bz j2 → pX1_rule u = pX1_rule_260 u  j1 j2 → W p l e (headSpec wsX1_rule { frames := 2, cells := 0, slots := 0, locals := 40 }).room s m ([.ref (h 0)] : List Value).toArray below meth c G260 locs 0 0 (MQ below (va_Qi (fun r u9 => r = pX1_rule u ∧ u9 = u) (BW D (tyl cI cZ) A (wM cI cZ h)) A) ([.ref (h 0)] : List Value).toArray s 0 0 A) (F0 m 260 ls []) := by
    intro  j1 j2 G260 locs ls hl hP hD hS hK  hzj1 hzj2 hq
    refine lv_aload_n hx hb dX1_rule_260 rfl (lv_at hl 0 rfl) ?_
    refine va_get (D := D) (ci := 1) (v := .int (mv u)) (C := RX1) (T := TX1) (N := 15) hx hb hts hin hown hK hP 0 rfl rfl 2 (by decide) (hts (.fieldLink RX1 36 "ModeDeskModel" "vertical" "I") (by decide +kernel)) (fun _ h9 => h9) rfl dX1_rule_261 ?_
    refine lv_iconst (v := 2) hx hb dX1_rule_264 (by decide) ?_
    refine lv_icmp_ne (tgt := 285) hx hb dX1_rule_265 (by decide) (fun c1 => ?_) (fun c1 => ?_)
    · refine lv_iconst (v := 0) hx hb dX1_rule_285 (by decide) ?_
      have hq1 : pX1_rule u = 0 := (by rw [hq]; unfold pX1_rule_260; first | (rw [if_neg c1]; done) | (rw [if_neg c1]; rfl))
      exact W.iret (v := 0) hx hb hr (fun t ht hW => ⟨⟨0, u, rfl, ⟨hq1.symm, rfl⟩, by rw [ht]; exact hP, va_K.moved hW.alike hK, hD⟩, hS.F ht⟩) hS.2.2 dX1_rule_286
    · refine lv_aload_n hx hb dX1_rule_268 rfl (lv_at hl 0 rfl) ?_
      refine va_get (D := D) (ci := 1) (v := .ref (h 1)) (C := RX1) (T := TX1) (N := 15) hx hb hts hin hown hK hP 0 rfl rfl 10 (by decide) (hts (.fieldLink RX1 7 "ModeDeskModel" "values" "[I") (by decide +kernel)) (fun _ h9 => h9) rfl dX1_rule_269 ?_
      refine lv_iconst (v := 4) hx hb dX1_rule_272 (by decide) ?_
      refine va_iald hx hb hK hP 1 0 rfl rfl (vi_c (by decide)) dX1_rule_273 ?_
      refine lv_sipush (v := 400) hx hb dX1_rule_274 (by decide) ?_
      refine lv_icmp_le (tgt := 285) hx hb dX1_rule_277 (by decide) (fun c2 => ?_) (fun c2 => ?_)
      · refine lv_iconst (v := 0) hx hb dX1_rule_285 (by decide) ?_
        have hq1 : pX1_rule u = 0 := (by rw [hq]; unfold pX1_rule_260; first | (rw [if_pos c1, if_pos c2]; done) | (rw [if_pos c1, if_pos c2]; rfl))
        exact W.iret (v := 0) hx hb hr (fun t ht hW => ⟨⟨0, u, rfl, ⟨hq1.symm, rfl⟩, by rw [ht]; exact hP, va_K.moved hW.alike hK, hD⟩, hS.F ht⟩) hS.2.2 dX1_rule_286
      · refine lv_bipush (v := 10) hx hb dX1_rule_280 (by decide) ?_
        refine lv_goto (tgt := 286) hx hb dX1_rule_282 (by decide) ?_
        have hq1 : pX1_rule u = 10 := (by rw [hq]; unfold pX1_rule_260; first | (rw [if_pos c1, if_neg c2]; done) | (rw [if_pos c1, if_neg c2]; rfl))
        exact W.iret (v := 10) hx hb hr (fun t ht hW => ⟨⟨10, u, rfl, ⟨hq1.symm, rfl⟩, by rw [ht]; exact hP, va_K.moved hW.alike hK, hD⟩, hS.F ht⟩) hS.2.2 dX1_rule_286
  have J239 : ∀  (j1 j2 : Int32) (G239 : Heap) (locs : List Loc) (ls : Array Slot), lv_has ls 3 [(0, .ref (h 0)), (1, .int j1), (2, .int j2)] → va_P D vwCl (wM cI cZ h u) G239 → va_D A (wM cI cZ h u) → va_S A s.heap G239 locs → va_K D vwCl (tyl cI cZ) s → bz j1 → bz j2 → pX1_rule u = pX1_rule_239 u  j1 j2 → W p l e (headSpec wsX1_rule { frames := 2, cells := 0, slots := 0, locals := 40 }).room s m ([.ref (h 0)] : List Value).toArray below meth c G239 locs 0 0 (MQ below (va_Qi (fun r u9 => r = pX1_rule u ∧ u9 = u) (BW D (tyl cI cZ) A (wM cI cZ h)) A) ([.ref (h 0)] : List Value).toArray s 0 0 A) (F0 m 239 ls []) := by
    intro  j1 j2 G239 locs ls hl hP hD hS hK  hzj1 hzj2 hq
    refine lv_aload_n hx hb dX1_rule_239 rfl (lv_at hl 0 rfl) ?_
    refine va_get (D := D) (ci := 1) (v := .int (mv u)) (C := RX1) (T := TX1) (N := 15) hx hb hts hin hown hK hP 0 rfl rfl 2 (by decide) (hts (.fieldLink RX1 36 "ModeDeskModel" "vertical" "I") (by decide +kernel)) (fun _ h9 => h9) rfl dX1_rule_240 ?_
    refine lv_iconst (v := 5) hx hb dX1_rule_243 (by decide) ?_
    refine lv_icmp_ne (tgt := 260) hx hb dX1_rule_244 (by decide) (fun c3 => ?_) (fun c3 => ?_)
    · exact J260  j1 j2 G239 _ _ (lv_sub hl [0, 1, 2] rfl) hP hD hS hK  hzj1 hzj2 (by rw [hq]; unfold pX1_rule_239; first | (rw [if_neg c3]; done) | (rw [if_neg c3]; rfl))
    · refine lv_aload_n hx hb dX1_rule_247 rfl (lv_at hl 0 rfl) ?_
      have hFc := va_free (wc := wM cI cZ h u) hD hS hA [0, 1, 2] rfl
      refine va_calli (va_runV (As := []) (rest := []) ⟨hx, hb, hml, hown, hts⟩ (kX1_apart l D cI cZ h G239.size u  n hI (by omega)) (cwV 0 hts gX1_rule_X1_apart rfl rfl rfl (by decide +kernel) ⟨Nat.le_of_ble_eq_true rfl, Nat.le_of_ble_eq_true rfl⟩) ⟨bl_W, va_recv hK hP (ci := 1) (q0 := 0) rfl rfl, pr_W hP hK hD⟩ rfl rfl hl.1 rfl (lv_room (Nat.le_of_ble_eq_true rfl)) dX1_rule_248 ⟨Nat.zero_le _, Nat.zero_le _⟩) hS (fun q _ h9 => hFc q h9) hFc (fun r4 u6 t H5 locs ht hvm hw hB hz1 hk1 hS => ?_)
      obtain ⟨hP, hK, hD⟩ := af_W hB ht hvm hFc
      clear hFc hB
      obtain ⟨er4, eu6⟩ := hw
      rw [eu6] at hP hD
      refine lv_sipush (v := 400) hx hb dX1_rule_251 (by decide) ?_
      refine lv_icmp_le (tgt := 260) hx hb dX1_rule_254 (by decide) (fun c7 => ?_) (fun c7 => ?_)
      · exact J260  j1 j2 H5 _ _ (lv_sub hl [0, 1, 2] rfl) hP hD hS hK  hzj1 hzj2 (by subst er4; rw [hq]; unfold pX1_rule_239; first | (rw [if_pos c3, if_pos c7]; done) | (rw [if_pos c3, if_pos c7]; rfl))
      · refine lv_bipush (v := 9) hx hb dX1_rule_257 (by decide) ?_
        have hq1 : pX1_rule u = 9 := (by subst er4; rw [hq]; unfold pX1_rule_239; first | (rw [if_pos c3, if_neg c7]; done) | (rw [if_pos c3, if_neg c7]; rfl))
        exact W.iret (v := 9) hx hb hr (fun t ht hW => ⟨⟨9, u, rfl, ⟨hq1.symm, rfl⟩, by rw [ht]; exact hP, va_K.moved hW.alike hK, hD⟩, hS.F ht⟩) hS.2.2 dX1_rule_259
  have J219 : ∀  (j1 j2 : Int32) (G219 : Heap) (locs : List Loc) (ls : Array Slot), lv_has ls 3 [(0, .ref (h 0)), (1, .int j1), (2, .int j2)] → va_P D vwCl (wM cI cZ h u) G219 → va_D A (wM cI cZ h u) → va_S A s.heap G219 locs → va_K D vwCl (tyl cI cZ) s → bz j1 → bz j2 → pX1_rule u = pX1_rule_219 u  j1 j2 → W p l e (headSpec wsX1_rule { frames := 2, cells := 0, slots := 0, locals := 40 }).room s m ([.ref (h 0)] : List Value).toArray below meth c G219 locs 0 0 (MQ below (va_Qi (fun r u9 => r = pX1_rule u ∧ u9 = u) (BW D (tyl cI cZ) A (wM cI cZ h)) A) ([.ref (h 0)] : List Value).toArray s 0 0 A) (F0 m 219 ls []) := by
    intro  j1 j2 G219 locs ls hl hP hD hS hK  hzj1 hzj2 hq
    refine lv_aload_n hx hb dX1_rule_219 rfl (lv_at hl 0 rfl) ?_
    refine va_get (D := D) (ci := 1) (v := .int (mv u)) (C := RX1) (T := TX1) (N := 15) hx hb hts hin hown hK hP 0 rfl rfl 2 (by decide) (hts (.fieldLink RX1 36 "ModeDeskModel" "vertical" "I") (by decide +kernel)) (fun _ h9 => h9) rfl dX1_rule_220 ?_
    refine lv_iconst (v := 5) hx hb dX1_rule_223 (by decide) ?_
    refine lv_icmp_ne (tgt := 239) hx hb dX1_rule_224 (by decide) (fun c8 => ?_) (fun c8 => ?_)
    · exact J239  j1 j2 G219 _ _ (lv_sub hl [0, 1, 2] rfl) hP hD hS hK  hzj1 hzj2 (by rw [hq]; unfold pX1_rule_219; first | (rw [if_neg c8]; done) | (rw [if_neg c8]; rfl))
    · refine lv_aload_n hx hb dX1_rule_227 rfl (lv_at hl 0 rfl) ?_
      have hFc := va_free (wc := wM cI cZ h u) hD hS hA [0, 1, 2] rfl
      refine va_calli (va_runV (As := []) (rest := []) ⟨hx, hb, hml, hown, hts⟩ (kX1_apart l D cI cZ h G219.size u  n hI (by omega)) (cwV 0 hts gX1_rule_X1_apart rfl rfl rfl (by decide +kernel) ⟨Nat.le_of_ble_eq_true rfl, Nat.le_of_ble_eq_true rfl⟩) ⟨bl_W, va_recv hK hP (ci := 1) (q0 := 0) rfl rfl, pr_W hP hK hD⟩ rfl rfl hl.1 rfl (lv_room (Nat.le_of_ble_eq_true rfl)) dX1_rule_228 ⟨Nat.zero_le _, Nat.zero_le _⟩) hS (fun q _ h9 => hFc q h9) hFc (fun r9 u11 t H10 locs ht hvm hw hB hz1 hk1 hS => ?_)
      obtain ⟨hP, hK, hD⟩ := af_W hB ht hvm hFc
      clear hFc hB
      obtain ⟨er9, eu11⟩ := hw
      rw [eu11] at hP hD
      refine lv_bipush (v := 20) hx hb dX1_rule_231 (by decide) ?_
      refine lv_icmp_gt (tgt := 239) hx hb dX1_rule_233 (by decide) (fun c12 => ?_) (fun c12 => ?_)
      · exact J239  j1 j2 H10 _ _ (lv_sub hl [0, 1, 2] rfl) hP hD hS hK  hzj1 hzj2 (by subst er9; rw [hq]; unfold pX1_rule_219; first | (rw [if_pos c8, if_pos c12]; done) | (rw [if_pos c8, if_pos c12]; rfl))
      · refine lv_bipush (v := 8) hx hb dX1_rule_236 (by decide) ?_
        have hq1 : pX1_rule u = 8 := (by subst er9; rw [hq]; unfold pX1_rule_219; first | (rw [if_pos c8, if_neg c12]; done) | (rw [if_pos c8, if_neg c12]; rfl))
        exact W.iret (v := 8) hx hb hr (fun t ht hW => ⟨⟨8, u, rfl, ⟨hq1.symm, rfl⟩, by rw [ht]; exact hP, va_K.moved hW.alike hK, hD⟩, hS.F ht⟩) hS.2.2 dX1_rule_238
  have J191 : ∀  (j1 j2 : Int32) (G191 : Heap) (locs : List Loc) (ls : Array Slot), lv_has ls 3 [(0, .ref (h 0)), (1, .int j1), (2, .int j2)] → va_P D vwCl (wM cI cZ h u) G191 → va_D A (wM cI cZ h u) → va_S A s.heap G191 locs → va_K D vwCl (tyl cI cZ) s → bz j1 → bz j2 → pX1_rule u = pX1_rule_191 u  j1 j2 → W p l e (headSpec wsX1_rule { frames := 2, cells := 0, slots := 0, locals := 40 }).room s m ([.ref (h 0)] : List Value).toArray below meth c G191 locs 0 0 (MQ below (va_Qi (fun r u9 => r = pX1_rule u ∧ u9 = u) (BW D (tyl cI cZ) A (wM cI cZ h)) A) ([.ref (h 0)] : List Value).toArray s 0 0 A) (F0 m 191 ls []) := by
    intro  j1 j2 G191 locs ls hl hP hD hS hK  hzj1 hzj2 hq
    refine lv_aload_n hx hb dX1_rule_191 rfl (lv_at hl 0 rfl) ?_
    refine va_get (D := D) (ci := 1) (v := .int (mv u)) (C := RX1) (T := TX1) (N := 15) hx hb hts hin hown hK hP 0 rfl rfl 2 (by decide) (hts (.fieldLink RX1 36 "ModeDeskModel" "vertical" "I") (by decide +kernel)) (fun _ h9 => h9) rfl dX1_rule_192 ?_
    refine lv_if_le (tgt := 219) hx hb dX1_rule_195 (by decide) (fun c13 => ?_) (fun c13 => ?_)
    · exact J219  j1 j2 G191 _ _ (lv_sub hl [0, 1, 2] rfl) hP hD hS hK  hzj1 hzj2 (by rw [hq]; unfold pX1_rule_191; first | (rw [if_pos c13]; done) | (rw [if_pos c13]; rfl))
    · refine lv_aload_n hx hb dX1_rule_198 rfl (lv_at hl 0 rfl) ?_
      refine va_get (D := D) (ci := 1) (v := .int (mv u)) (C := RX1) (T := TX1) (N := 15) hx hb hts hin hown hK hP 0 rfl rfl 2 (by decide) (hts (.fieldLink RX1 36 "ModeDeskModel" "vertical" "I") (by decide +kernel)) (fun _ h9 => h9) rfl dX1_rule_199 ?_
      refine lv_iconst (v := 4) hx hb dX1_rule_202 (by decide) ?_
      refine lv_icmp_ge (tgt := 219) hx hb dX1_rule_203 (by decide) (fun c14 => ?_) (fun c14 => ?_)
      · exact J219  j1 j2 G191 _ _ (lv_sub hl [0, 1, 2] rfl) hP hD hS hK  hzj1 hzj2 (by rw [hq]; unfold pX1_rule_191; first | (rw [if_neg c13, if_pos c14]; done) | (rw [if_neg c13, if_pos c14]; rfl))
      · refine lv_aload_n hx hb dX1_rule_206 rfl (lv_at hl 0 rfl) ?_
        have hFc := va_free (wc := wM cI cZ h u) hD hS hA [0, 1, 2] rfl
        refine va_calli (va_runV (As := []) (rest := []) ⟨hx, hb, hml, hown, hts⟩ (kX1_apart l D cI cZ h G191.size u  n hI (by omega)) (cwV 0 hts gX1_rule_X1_apart rfl rfl rfl (by decide +kernel) ⟨Nat.le_of_ble_eq_true rfl, Nat.le_of_ble_eq_true rfl⟩) ⟨bl_W, va_recv hK hP (ci := 1) (q0 := 0) rfl rfl, pr_W hP hK hD⟩ rfl rfl hl.1 rfl (lv_room (Nat.le_of_ble_eq_true rfl)) dX1_rule_207 ⟨Nat.zero_le _, Nat.zero_le _⟩) hS (fun q _ h9 => hFc q h9) hFc (fun r15 u17 t H16 locs ht hvm hw hB hz1 hk1 hS => ?_)
        obtain ⟨hP, hK, hD⟩ := af_W hB ht hvm hFc
        clear hFc hB
        obtain ⟨er15, eu17⟩ := hw
        rw [eu17] at hP hD
        refine lv_sipush (v := 400) hx hb dX1_rule_210 (by decide) ?_
        refine lv_icmp_gt (tgt := 219) hx hb dX1_rule_213 (by decide) (fun c18 => ?_) (fun c18 => ?_)
        · exact J219  j1 j2 H16 _ _ (lv_sub hl [0, 1, 2] rfl) hP hD hS hK  hzj1 hzj2 (by subst er15; rw [hq]; unfold pX1_rule_191; first | (rw [if_neg c13, if_neg c14, if_pos c18]; done) | (rw [if_neg c13, if_neg c14, if_pos c18]; rfl))
        · refine lv_bipush (v := 7) hx hb dX1_rule_216 (by decide) ?_
          have hq1 : pX1_rule u = 7 := (by subst er15; rw [hq]; unfold pX1_rule_191; first | (rw [if_neg c13, if_neg c14, if_neg c18]; done) | (rw [if_neg c13, if_neg c14, if_neg c18]; rfl))
          exact W.iret (v := 7) hx hb hr (fun t ht hW => ⟨⟨7, u, rfl, ⟨hq1.symm, rfl⟩, by rw [ht]; exact hP, va_K.moved hW.alike hK, hD⟩, hS.F ht⟩) hS.2.2 dX1_rule_218
  have J155 : ∀  (j1 j2 : Int32) (G155 : Heap) (locs : List Loc) (ls : Array Slot), lv_has ls 3 [(0, .ref (h 0)), (1, .int j1), (2, .int j2)] → va_P D vwCl (wM cI cZ h u) G155 → va_D A (wM cI cZ h u) → va_S A s.heap G155 locs → va_K D vwCl (tyl cI cZ) s → bz j1 → bz j2 → pX1_rule u = pX1_rule_155 u  j1 j2 → W p l e (headSpec wsX1_rule { frames := 2, cells := 0, slots := 0, locals := 40 }).room s m ([.ref (h 0)] : List Value).toArray below meth c G155 locs 0 0 (MQ below (va_Qi (fun r u9 => r = pX1_rule u ∧ u9 = u) (BW D (tyl cI cZ) A (wM cI cZ h)) A) ([.ref (h 0)] : List Value).toArray s 0 0 A) (F0 m 155 ls []) := by
    intro  j1 j2 G155 locs ls hl hP hD hS hK  hzj1 hzj2 hq
    refine lv_aload_n hx hb dX1_rule_155 rfl (lv_at hl 0 rfl) ?_
    refine va_get (D := D) (ci := 1) (v := .int (mg u)) (C := RX1) (T := TX1) (N := 15) hx hb hts hin hown hK hP 0 rfl rfl 4 (by decide) (hts (.fieldLink RX1 45 "ModeDeskModel" "armedGlide" "Z") (by decide +kernel)) (fun _ h9 => h9) rfl dX1_rule_156 ?_
    refine lv_if_eq (tgt := 191) hx hb dX1_rule_159 (by decide) (fun c19 => ?_) (fun c19 => ?_)
    · exact J191  j1 j2 G155 _ _ (lv_sub hl [0, 1, 2] rfl) hP hD hS hK  hzj1 hzj2 (by rw [hq]; unfold pX1_rule_155; first | (rw [if_pos c19]; done) | (rw [if_pos c19]; rfl))
    · refine lv_aload_n hx hb dX1_rule_162 rfl (lv_at hl 0 rfl) ?_
      refine va_get (D := D) (ci := 1) (v := .int (ml u)) (C := RX1) (T := TX1) (N := 15) hx hb hts hin hown hK hP 0 rfl rfl 1 (by decide) (hts (.fieldLink RX1 26 "ModeDeskModel" "lateral" "I") (by decide +kernel)) (fun _ h9 => h9) rfl dX1_rule_163 ?_
      refine lv_iconst (v := 4) hx hb dX1_rule_166 (by decide) ?_
      refine lv_icmp_ne (tgt := 191) hx hb dX1_rule_167 (by decide) (fun c20 => ?_) (fun c20 => ?_)
      · exact J191  j1 j2 G155 _ _ (lv_sub hl [0, 1, 2] rfl) hP hD hS hK  hzj1 hzj2 (by rw [hq]; unfold pX1_rule_155; first | (rw [if_neg c19, if_neg c20]; done) | (rw [if_neg c19, if_neg c20]; rfl))
      · refine lv_iload_n hx hb dX1_rule_170 rfl (lv_at hl 2 rfl) ?_
        refine lv_if_eq (tgt := 191) hx hb dX1_rule_171 (by decide) (fun c21 => ?_) (fun c21 => ?_)
        · exact J191  j1 j2 G155 _ _ (lv_sub hl [0, 1, 2] rfl) hP hD hS hK  hzj1 hzj2 (by rw [hq]; unfold pX1_rule_155; first | (rw [if_neg c19, if_pos c20, if_pos c21]; done) | (rw [if_neg c19, if_pos c20, if_pos c21]; rfl))
        · refine lv_aload_n hx hb dX1_rule_174 rfl (lv_at hl 0 rfl) ?_
          refine va_get (D := D) (ci := 1) (v := .ref (h 1)) (C := RX1) (T := TX1) (N := 15) hx hb hts hin hown hK hP 0 rfl rfl 10 (by decide) (hts (.fieldLink RX1 7 "ModeDeskModel" "values" "[I") (by decide +kernel)) (fun _ h9 => h9) rfl dX1_rule_175 ?_
          refine lv_iconst (v := 1) hx hb dX1_rule_178 (by decide) ?_
          refine va_iald hx hb hK hP 1 0 rfl rfl (vi_c (by decide)) dX1_rule_179 ?_
          refine va_calli (va_runS (As := [.int (mV u (Int32.toNatClampNeg 1))]) (rest := []) ⟨hx, hb, hml, hown, hts⟩ (kX1_size l D (tyl cI cZ) G155.size (mV u (Int32.toNatClampNeg 1))) (va_cwS 1 hts gX1_rule_X1_size rfl rfl rfl (by decide +kernel) ⟨Nat.le_of_ble_eq_true rfl, Nat.le_of_ble_eq_true rfl⟩) ⟨bl_W, pr_W (ws := wE ()) pE hK (dE (A := A))⟩ rfl rfl hl.1 rfl (lv_room (Nat.le_of_ble_eq_true rfl)) dX1_rule_180 ⟨Nat.zero_le _, Nat.zero_le _⟩) hS (fun q _ h9 => fr_E hS hA q h9) (fr_E hS hA) (fun r22 u9 t H23 locs ht hvm hw hB hz1 hk1 hS => ?_)
          have hP := af_E hP hk1
          have er22 := hw
          refine lv_bipush (v := 80) hx hb dX1_rule_183 (by decide) ?_
          refine lv_icmp_gt (tgt := 191) hx hb dX1_rule_185 (by decide) (fun c24 => ?_) (fun c24 => ?_)
          · exact J191  j1 j2 H23 _ _ (lv_sub hl [0, 1, 2] rfl) hP hD hS hK  hzj1 hzj2 (by subst er22; rw [hq]; unfold pX1_rule_155; first | (rw [if_neg c19, if_pos c20, if_neg c21, if_pos c24]; done) | (rw [if_neg c19, if_pos c20, if_neg c21, if_pos c24]; rfl))
          · refine lv_bipush (v := 6) hx hb dX1_rule_188 (by decide) ?_
            have hq1 : pX1_rule u = 6 := (by subst er22; rw [hq]; unfold pX1_rule_155; first | (rw [if_neg c19, if_pos c20, if_neg c21, if_neg c24]; done) | (rw [if_neg c19, if_pos c20, if_neg c21, if_neg c24]; rfl))
            exact W.iret (v := 6) hx hb hr (fun t ht hW => ⟨⟨6, u, rfl, ⟨hq1.symm, rfl⟩, by rw [ht]; exact hP, va_K.moved hW.alike hK, hD⟩, hS.F ht⟩) hS.2.2 dX1_rule_190
  have J127 : ∀  (j1 j2 : Int32) (G127 : Heap) (locs : List Loc) (ls : Array Slot), lv_has ls 3 [(0, .ref (h 0)), (1, .int j1), (2, .int j2)] → va_P D vwCl (wM cI cZ h u) G127 → va_D A (wM cI cZ h u) → va_S A s.heap G127 locs → va_K D vwCl (tyl cI cZ) s → bz j1 → bz j2 → pX1_rule u = pX1_rule_127 u  j1 j2 → W p l e (headSpec wsX1_rule { frames := 2, cells := 0, slots := 0, locals := 40 }).room s m ([.ref (h 0)] : List Value).toArray below meth c G127 locs 0 0 (MQ below (va_Qi (fun r u9 => r = pX1_rule u ∧ u9 = u) (BW D (tyl cI cZ) A (wM cI cZ h)) A) ([.ref (h 0)] : List Value).toArray s 0 0 A) (F0 m 127 ls []) := by
    intro  j1 j2 G127 locs ls hl hP hD hS hK  hzj1 hzj2 hq
    refine lv_aload_n hx hb dX1_rule_127 rfl (lv_at hl 0 rfl) ?_
    refine va_get (D := D) (ci := 1) (v := .int (ma u)) (C := RX1) (T := TX1) (N := 15) hx hb hts hin hown hK hP 0 rfl rfl 3 (by decide) (hts (.fieldLink RX1 42 "ModeDeskModel" "armedLateral" "I") (by decide +kernel)) (fun _ h9 => h9) rfl dX1_rule_128 ?_
    refine lv_iconst (v := 2) hx hb dX1_rule_131 (by decide) ?_
    refine lv_icmp_ne (tgt := 155) hx hb dX1_rule_132 (by decide) (fun c25 => ?_) (fun c25 => ?_)
    · exact J155  j1 j2 G127 _ _ (lv_sub hl [0, 1, 2] rfl) hP hD hS hK  hzj1 hzj2 (by rw [hq]; unfold pX1_rule_127; first | (rw [if_neg c25]; done) | (rw [if_neg c25]; rfl))
    · refine lv_iload_n hx hb dX1_rule_135 rfl (lv_at hl 1 rfl) ?_
      refine lv_if_eq (tgt := 155) hx hb dX1_rule_136 (by decide) (fun c26 => ?_) (fun c26 => ?_)
      · exact J155  j1 j2 G127 _ _ (lv_sub hl [0, 1, 2] rfl) hP hD hS hK  hzj1 hzj2 (by rw [hq]; unfold pX1_rule_127; first | (rw [if_pos c25, if_pos c26]; done) | (rw [if_pos c25, if_pos c26]; rfl))
      · refine lv_aload_n hx hb dX1_rule_139 rfl (lv_at hl 0 rfl) ?_
        refine va_get (D := D) (ci := 1) (v := .ref (h 1)) (C := RX1) (T := TX1) (N := 15) hx hb hts hin hown hK hP 0 rfl rfl 10 (by decide) (hts (.fieldLink RX1 7 "ModeDeskModel" "values" "[I") (by decide +kernel)) (fun _ h9 => h9) rfl dX1_rule_140 ?_
        refine lv_iconst (v := 0) hx hb dX1_rule_143 (by decide) ?_
        refine va_iald hx hb hK hP 1 0 rfl rfl (vi_c (by decide)) dX1_rule_144 ?_
        refine va_calli (va_runS (As := [.int (mV u (Int32.toNatClampNeg 0))]) (rest := []) ⟨hx, hb, hml, hown, hts⟩ (kX1_size l D (tyl cI cZ) G127.size (mV u (Int32.toNatClampNeg 0))) (va_cwS 1 hts gX1_rule_X1_size rfl rfl rfl (by decide +kernel) ⟨Nat.le_of_ble_eq_true rfl, Nat.le_of_ble_eq_true rfl⟩) ⟨bl_W, pr_W (ws := wE ()) pE hK (dE (A := A))⟩ rfl rfl hl.1 rfl (lv_room (Nat.le_of_ble_eq_true rfl)) dX1_rule_145 ⟨Nat.zero_le _, Nat.zero_le _⟩) hS (fun q _ h9 => fr_E hS hA q h9) (fr_E hS hA) (fun r27 u9 t H28 locs ht hvm hw hB hz1 hk1 hS => ?_)
        have hP := af_E hP hk1
        have er27 := hw
        refine lv_bipush (v := 100) hx hb dX1_rule_148 (by decide) ?_
        refine lv_icmp_gt (tgt := 155) hx hb dX1_rule_150 (by decide) (fun c29 => ?_) (fun c29 => ?_)
        · exact J155  j1 j2 H28 _ _ (lv_sub hl [0, 1, 2] rfl) hP hD hS hK  hzj1 hzj2 (by subst er27; rw [hq]; unfold pX1_rule_127; first | (rw [if_pos c25, if_neg c26, if_pos c29]; done) | (rw [if_pos c25, if_neg c26, if_pos c29]; rfl))
        · refine lv_iconst (v := 5) hx hb dX1_rule_153 (by decide) ?_
          have hq1 : pX1_rule u = 5 := (by subst er27; rw [hq]; unfold pX1_rule_127; first | (rw [if_pos c25, if_neg c26, if_neg c29]; done) | (rw [if_pos c25, if_neg c26, if_neg c29]; rfl))
          exact W.iret (v := 5) hx hb hr (fun t ht hW => ⟨⟨5, u, rfl, ⟨hq1.symm, rfl⟩, by rw [ht]; exact hP, va_K.moved hW.alike hK, hD⟩, hS.F ht⟩) hS.2.2 dX1_rule_154
  have J98 : ∀  (j1 j2 : Int32) (G98 : Heap) (locs : List Loc) (ls : Array Slot), lv_has ls 3 [(0, .ref (h 0)), (1, .int j1), (2, .int j2)] → va_P D vwCl (wM cI cZ h u) G98 → va_D A (wM cI cZ h u) → va_S A s.heap G98 locs → va_K D vwCl (tyl cI cZ) s → bz j1 → bz j2 → pX1_rule u = pX1_rule_98 u  j1 j2 → W p l e (headSpec wsX1_rule { frames := 2, cells := 0, slots := 0, locals := 40 }).room s m ([.ref (h 0)] : List Value).toArray below meth c G98 locs 0 0 (MQ below (va_Qi (fun r u9 => r = pX1_rule u ∧ u9 = u) (BW D (tyl cI cZ) A (wM cI cZ h)) A) ([.ref (h 0)] : List Value).toArray s 0 0 A) (F0 m 98 ls []) := by
    intro  j1 j2 G98 locs ls hl hP hD hS hK  hzj1 hzj2 hq
    refine lv_aload_n hx hb dX1_rule_98 rfl (lv_at hl 0 rfl) ?_
    refine va_get (D := D) (ci := 1) (v := .int (ma u)) (C := RX1) (T := TX1) (N := 15) hx hb hts hin hown hK hP 0 rfl rfl 3 (by decide) (hts (.fieldLink RX1 42 "ModeDeskModel" "armedLateral" "I") (by decide +kernel)) (fun _ h9 => h9) rfl dX1_rule_99 ?_
    refine lv_iconst (v := 1) hx hb dX1_rule_102 (by decide) ?_
    refine lv_icmp_ne (tgt := 127) hx hb dX1_rule_103 (by decide) (fun c30 => ?_) (fun c30 => ?_)
    · exact J127  j1 j2 G98 _ _ (lv_sub hl [0, 1, 2] rfl) hP hD hS hK  hzj1 hzj2 (by rw [hq]; unfold pX1_rule_98; first | (rw [if_neg c30]; done) | (rw [if_neg c30]; rfl))
    · refine lv_iload_n hx hb dX1_rule_106 rfl (lv_at hl 1 rfl) ?_
      refine lv_if_eq (tgt := 127) hx hb dX1_rule_107 (by decide) (fun c31 => ?_) (fun c31 => ?_)
      · exact J127  j1 j2 G98 _ _ (lv_sub hl [0, 1, 2] rfl) hP hD hS hK  hzj1 hzj2 (by rw [hq]; unfold pX1_rule_98; first | (rw [if_pos c30, if_pos c31]; done) | (rw [if_pos c30, if_pos c31]; rfl))
      · refine lv_aload_n hx hb dX1_rule_110 rfl (lv_at hl 0 rfl) ?_
        refine va_get (D := D) (ci := 1) (v := .ref (h 1)) (C := RX1) (T := TX1) (N := 15) hx hb hts hin hown hK hP 0 rfl rfl 10 (by decide) (hts (.fieldLink RX1 7 "ModeDeskModel" "values" "[I") (by decide +kernel)) (fun _ h9 => h9) rfl dX1_rule_111 ?_
        refine lv_iconst (v := 0) hx hb dX1_rule_114 (by decide) ?_
        refine va_iald hx hb hK hP 1 0 rfl rfl (vi_c (by decide)) dX1_rule_115 ?_
        refine va_calli (va_runS (As := [.int (mV u (Int32.toNatClampNeg 0))]) (rest := []) ⟨hx, hb, hml, hown, hts⟩ (kX1_size l D (tyl cI cZ) G98.size (mV u (Int32.toNatClampNeg 0))) (va_cwS 1 hts gX1_rule_X1_size rfl rfl rfl (by decide +kernel) ⟨Nat.le_of_ble_eq_true rfl, Nat.le_of_ble_eq_true rfl⟩) ⟨bl_W, pr_W (ws := wE ()) pE hK (dE (A := A))⟩ rfl rfl hl.1 rfl (lv_room (Nat.le_of_ble_eq_true rfl)) dX1_rule_116 ⟨Nat.zero_le _, Nat.zero_le _⟩) hS (fun q _ h9 => fr_E hS hA q h9) (fr_E hS hA) (fun r32 u9 t H33 locs ht hvm hw hB hz1 hk1 hS => ?_)
        have hP := af_E hP hk1
        have er32 := hw
        refine lv_sipush (v := 150) hx hb dX1_rule_119 (by decide) ?_
        refine lv_icmp_gt (tgt := 127) hx hb dX1_rule_122 (by decide) (fun c34 => ?_) (fun c34 => ?_)
        · exact J127  j1 j2 H33 _ _ (lv_sub hl [0, 1, 2] rfl) hP hD hS hK  hzj1 hzj2 (by subst er32; rw [hq]; unfold pX1_rule_98; first | (rw [if_pos c30, if_neg c31, if_pos c34]; done) | (rw [if_pos c30, if_neg c31, if_pos c34]; rfl))
        · refine lv_iconst (v := 4) hx hb dX1_rule_125 (by decide) ?_
          have hq1 : pX1_rule u = 4 := (by subst er32; rw [hq]; unfold pX1_rule_98; first | (rw [if_pos c30, if_neg c31, if_neg c34]; done) | (rw [if_pos c30, if_neg c31, if_neg c34]; rfl))
          exact W.iret (v := 4) hx hb hr (fun t ht hW => ⟨⟨4, u, rfl, ⟨hq1.symm, rfl⟩, by rw [ht]; exact hP, va_K.moved hW.alike hK, hD⟩, hS.F ht⟩) hS.2.2 dX1_rule_126
  have J75 : ∀  (j1 j2 : Int32) (G75 : Heap) (locs : List Loc) (ls : Array Slot), lv_has ls 3 [(0, .ref (h 0)), (1, .int j1), (2, .int j2)] → va_P D vwCl (wM cI cZ h u) G75 → va_D A (wM cI cZ h u) → va_S A s.heap G75 locs → va_K D vwCl (tyl cI cZ) s → bz j1 → bz j2 → pX1_rule u = pX1_rule_75 u  j1 j2 → W p l e (headSpec wsX1_rule { frames := 2, cells := 0, slots := 0, locals := 40 }).room s m ([.ref (h 0)] : List Value).toArray below meth c G75 locs 0 0 (MQ below (va_Qi (fun r u9 => r = pX1_rule u ∧ u9 = u) (BW D (tyl cI cZ) A (wM cI cZ h)) A) ([.ref (h 0)] : List Value).toArray s 0 0 A) (F0 m 75 ls []) := by
    intro  j1 j2 G75 locs ls hl hP hD hS hK  hzj1 hzj2 hq
    refine lv_aload_n hx hb dX1_rule_75 rfl (lv_at hl 0 rfl) ?_
    refine va_get (D := D) (ci := 1) (v := .int (mv u)) (C := RX1) (T := TX1) (N := 15) hx hb hts hin hown hK hP 0 rfl rfl 2 (by decide) (hts (.fieldLink RX1 36 "ModeDeskModel" "vertical" "I") (by decide +kernel)) (fun _ h9 => h9) rfl dX1_rule_76 ?_
    refine lv_bipush (v := 6) hx hb dX1_rule_79 (by decide) ?_
    refine lv_icmp_ne (tgt := 98) hx hb dX1_rule_81 (by decide) (fun c35 => ?_) (fun c35 => ?_)
    · exact J98  j1 j2 G75 _ _ (lv_sub hl [0, 1, 2] rfl) hP hD hS hK  hzj1 hzj2 (by rw [hq]; unfold pX1_rule_75; first | (rw [if_neg c35]; done) | (rw [if_neg c35]; rfl))
    · refine lv_iload_n hx hb dX1_rule_84 rfl (lv_at hl 2 rfl) ?_
      refine lv_if_eq (tgt := 96) hx hb dX1_rule_85 (by decide) (fun c36 => ?_) (fun c36 => ?_)
      · refine lv_iconst (v := 3) hx hb dX1_rule_96 (by decide) ?_
        have hq1 : pX1_rule u = 3 := (by rw [hq]; unfold pX1_rule_75; first | (rw [if_pos c35, if_pos c36]; done) | (rw [if_pos c35, if_pos c36]; rfl))
        exact W.iret (v := 3) hx hb hr (fun t ht hW => ⟨⟨3, u, rfl, ⟨hq1.symm, rfl⟩, by rw [ht]; exact hP, va_K.moved hW.alike hK, hD⟩, hS.F ht⟩) hS.2.2 dX1_rule_97
      · refine lv_aload_n hx hb dX1_rule_88 rfl (lv_at hl 0 rfl) ?_
        refine va_get (D := D) (ci := 1) (v := .int (ml u)) (C := RX1) (T := TX1) (N := 15) hx hb hts hin hown hK hP 0 rfl rfl 1 (by decide) (hts (.fieldLink RX1 26 "ModeDeskModel" "lateral" "I") (by decide +kernel)) (fun _ h9 => h9) rfl dX1_rule_89 ?_
        refine lv_iconst (v := 4) hx hb dX1_rule_92 (by decide) ?_
        refine lv_icmp_eq (tgt := 98) hx hb dX1_rule_93 (by decide) (fun c37 => ?_) (fun c37 => ?_)
        · exact J98  j1 j2 G75 _ _ (lv_sub hl [0, 1, 2] rfl) hP hD hS hK  hzj1 hzj2 (by rw [hq]; unfold pX1_rule_75; first | (rw [if_pos c35, if_neg c36, if_pos c37]; done) | (rw [if_pos c35, if_neg c36, if_pos c37]; rfl))
        · refine lv_iconst (v := 3) hx hb dX1_rule_96 (by decide) ?_
          have hq1 : pX1_rule u = 3 := (by rw [hq]; unfold pX1_rule_75; first | (rw [if_pos c35, if_neg c36, if_neg c37]; done) | (rw [if_pos c35, if_neg c36, if_neg c37]; rfl))
          exact W.iret (v := 3) hx hb hr (fun t ht hW => ⟨⟨3, u, rfl, ⟨hq1.symm, rfl⟩, by rw [ht]; exact hP, va_K.moved hW.alike hK, hD⟩, hS.F ht⟩) hS.2.2 dX1_rule_97
  have J53 : ∀  (j1 j2 : Int32) (G53 : Heap) (locs : List Loc) (ls : Array Slot), lv_has ls 3 [(0, .ref (h 0)), (1, .int j1), (2, .int j2)] → va_P D vwCl (wM cI cZ h u) G53 → va_D A (wM cI cZ h u) → va_S A s.heap G53 locs → va_K D vwCl (tyl cI cZ) s → bz j1 → bz j2 → pX1_rule u = pX1_rule_53 u  j1 j2 → W p l e (headSpec wsX1_rule { frames := 2, cells := 0, slots := 0, locals := 40 }).room s m ([.ref (h 0)] : List Value).toArray below meth c G53 locs 0 0 (MQ below (va_Qi (fun r u9 => r = pX1_rule u ∧ u9 = u) (BW D (tyl cI cZ) A (wM cI cZ h)) A) ([.ref (h 0)] : List Value).toArray s 0 0 A) (F0 m 53 ls []) := by
    intro  j1 j2 G53 locs ls hl hP hD hS hK  hzj1 hzj2 hq
    refine lv_aload_n hx hb dX1_rule_53 rfl (lv_at hl 0 rfl) ?_
    refine va_get (D := D) (ci := 1) (v := .int (ml u)) (C := RX1) (T := TX1) (N := 15) hx hb hts hin hown hK hP 0 rfl rfl 1 (by decide) (hts (.fieldLink RX1 26 "ModeDeskModel" "lateral" "I") (by decide +kernel)) (fun _ h9 => h9) rfl dX1_rule_54 ?_
    refine lv_iconst (v := 3) hx hb dX1_rule_57 (by decide) ?_
    refine lv_icmp_eq (tgt := 69) hx hb dX1_rule_58 (by decide) (fun c38 => ?_) (fun c38 => ?_)
    · refine lv_iload_n hx hb dX1_rule_69 rfl (lv_at hl 1 rfl) ?_
      refine lv_if_ne (tgt := 75) hx hb dX1_rule_70 (by decide) (fun c39 => ?_) (fun c39 => ?_)
      · exact J75  j1 j2 G53 _ _ (lv_sub hl [0, 1, 2] rfl) hP hD hS hK  hzj1 hzj2 (by rw [hq]; unfold pX1_rule_53; first | (rw [if_pos c38, if_neg c39]; done) | (rw [if_pos c38, if_neg c39]; rfl))
      · refine lv_iconst (v := 2) hx hb dX1_rule_73 (by decide) ?_
        have hq1 : pX1_rule u = 2 := (by rw [hq]; unfold pX1_rule_53; first | (rw [if_pos c38, if_pos c39]; done) | (rw [if_pos c38, if_pos c39]; rfl))
        exact W.iret (v := 2) hx hb hr (fun t ht hW => ⟨⟨2, u, rfl, ⟨hq1.symm, rfl⟩, by rw [ht]; exact hP, va_K.moved hW.alike hK, hD⟩, hS.F ht⟩) hS.2.2 dX1_rule_74
    · refine lv_aload_n hx hb dX1_rule_61 rfl (lv_at hl 0 rfl) ?_
      refine va_get (D := D) (ci := 1) (v := .int (ml u)) (C := RX1) (T := TX1) (N := 15) hx hb hts hin hown hK hP 0 rfl rfl 1 (by decide) (hts (.fieldLink RX1 26 "ModeDeskModel" "lateral" "I") (by decide +kernel)) (fun _ h9 => h9) rfl dX1_rule_62 ?_
      refine lv_iconst (v := 4) hx hb dX1_rule_65 (by decide) ?_
      refine lv_icmp_ne (tgt := 75) hx hb dX1_rule_66 (by decide) (fun c40 => ?_) (fun c40 => ?_)
      · exact J75  j1 j2 G53 _ _ (lv_sub hl [0, 1, 2] rfl) hP hD hS hK  hzj1 hzj2 (by rw [hq]; unfold pX1_rule_53; first | (rw [if_neg c38, if_neg c40]; done) | (rw [if_neg c38, if_neg c40]; rfl))
      · refine lv_iload_n hx hb dX1_rule_69 rfl (lv_at hl 1 rfl) ?_
        refine lv_if_ne (tgt := 75) hx hb dX1_rule_70 (by decide) (fun c41 => ?_) (fun c41 => ?_)
        · exact J75  j1 j2 G53 _ _ (lv_sub hl [0, 1, 2] rfl) hP hD hS hK  hzj1 hzj2 (by rw [hq]; unfold pX1_rule_53; first | (rw [if_neg c38, if_pos c40, if_neg c41]; done) | (rw [if_neg c38, if_pos c40, if_neg c41]; rfl))
        · refine lv_iconst (v := 2) hx hb dX1_rule_73 (by decide) ?_
          have hq1 : pX1_rule u = 2 := (by rw [hq]; unfold pX1_rule_53; first | (rw [if_neg c38, if_pos c40, if_pos c41]; done) | (rw [if_neg c38, if_pos c40, if_pos c41]; rfl))
          exact W.iret (v := 2) hx hb hr (fun t ht hW => ⟨⟨2, u, rfl, ⟨hq1.symm, rfl⟩, by rw [ht]; exact hP, va_K.moved hW.alike hK, hD⟩, hS.F ht⟩) hS.2.2 dX1_rule_74
  have J32 : ∀  (j1 j2 : Int32) (G32 : Heap) (locs : List Loc) (ls : Array Slot), lv_has ls 3 [(0, .ref (h 0)), (1, .int j2)] → va_P D vwCl (wM cI cZ h u) G32 → va_D A (wM cI cZ h u) → va_S A s.heap G32 locs → va_K D vwCl (tyl cI cZ) s → bz j1 → bz j2 → pX1_rule u = pX1_rule_32 u  j1 j2 → W p l e (headSpec wsX1_rule { frames := 2, cells := 0, slots := 0, locals := 40 }).room s m ([.ref (h 0)] : List Value).toArray below meth c G32 locs 0 0 (MQ below (va_Qi (fun r u9 => r = pX1_rule u ∧ u9 = u) (BW D (tyl cI cZ) A (wM cI cZ h)) A) ([.ref (h 0)] : List Value).toArray s 0 0 A) (F0 m 32 ls [.int j1]) := by
    intro  j1 j2 G32 locs ls hl hP hD hS hK  hzj1 hzj2 hq
    refine lv_istore_n (lv' := [(2, .int j1), (0, .ref (h 0)), (1, .int j2)]) hx hb dX1_rule_32 rfl hl (by decide) rfl (fun ls hl => ?_)
    refine lv_aload_n hx hb dX1_rule_33 rfl (lv_at hl 1 rfl) ?_
    refine va_get (D := D) (ci := 1) (v := .int (ml u)) (C := RX1) (T := TX1) (N := 15) hx hb hts hin hown hK hP 0 rfl rfl 1 (by decide) (hts (.fieldLink RX1 26 "ModeDeskModel" "lateral" "I") (by decide +kernel)) (fun _ h9 => h9) rfl dX1_rule_34 ?_
    refine lv_if_le (tgt := 53) hx hb dX1_rule_37 (by decide) (fun c42 => ?_) (fun c42 => ?_)
    · exact J53  j2 j1 G32 _ _ (lv_sub hl [1, 2, 0] rfl) hP hD hS hK  hzj2 hzj1 (by rw [hq]; unfold pX1_rule_32; first | (rw [if_pos c42]; done) | (rw [if_pos c42]; rfl))
    · refine lv_aload_n hx hb dX1_rule_40 rfl (lv_at hl 1 rfl) ?_
      refine lv_aload_n hx hb dX1_rule_41 rfl (lv_at hl 1 rfl) ?_
      refine va_get (D := D) (ci := 1) (v := .int (mr u)) (C := RX1) (T := TX1) (N := 15) hx hb hts hin hown hK hP 0 rfl rfl 9 (by decide) (hts (.fieldLink RX1 16 "ModeDeskModel" "leader" "I") (by decide +kernel)) (fun _ h9 => h9) rfl dX1_rule_42 ?_
      have hFc := va_free (wc := wM cI cZ h u) hD hS hA [0, 1, 2] rfl
      refine va_calli (va_runV (As := [.int (mr u)]) (rest := []) ⟨hx, hb, hml, hown, hts⟩ (kX1_isBad l D cI cZ h G32.size u (mr u) n hI (by omega)) (cwV 1 hts gX1_rule_X1_isBad rfl rfl rfl (by decide +kernel) ⟨Nat.le_of_ble_eq_true rfl, Nat.le_of_ble_eq_true rfl⟩) ⟨bl_W, va_recv hK hP (ci := 1) (q0 := 0) rfl rfl, pr_W hP hK hD⟩ rfl rfl hl.1 rfl (lv_room (Nat.le_of_ble_eq_true rfl)) dX1_rule_45 ⟨Nat.zero_le _, Nat.zero_le _⟩) hS (fun q _ h9 => hFc q h9) hFc (fun r43 u45 t H44 locs ht hvm hw hB hz1 hk1 hS => ?_)
      obtain ⟨hP, hK, hD⟩ := af_W hB ht hvm hFc
      clear hFc hB
      obtain ⟨er43, eu45, br43⟩ := hw
      rw [eu45] at hP hD
      refine lv_if_eq (tgt := 53) hx hb dX1_rule_48 (by decide) (fun c46 => ?_) (fun c46 => ?_)
      · exact J53  j2 j1 H44 _ _ (lv_sub hl [1, 2, 0] rfl) hP hD hS hK  hzj2 hzj1 (by subst er43; rw [hq]; unfold pX1_rule_32; first | (rw [if_neg c42, if_pos c46]; done) | (rw [if_neg c42, if_pos c46]; rfl))
      · refine lv_iconst (v := 1) hx hb dX1_rule_51 (by decide) ?_
        have hq1 : pX1_rule u = 1 := (by subst er43; rw [hq]; unfold pX1_rule_32; first | (rw [if_neg c42, if_neg c46]; done) | (rw [if_neg c42, if_neg c46]; rfl))
        exact W.iret (v := 1) hx hb hr (fun t ht hW => ⟨⟨1, u, rfl, ⟨hq1.symm, rfl⟩, by rw [ht]; exact hP, va_K.moved hW.alike hK, hD⟩, hS.F ht⟩) hS.2.2 dX1_rule_52
  have J15 : ∀  (j1 : Int32) (G15 : Heap) (locs : List Loc) (ls : Array Slot), lv_has ls 3 [(0, .ref (h 0))] → va_P D vwCl (wM cI cZ h u) G15 → va_D A (wM cI cZ h u) → va_S A s.heap G15 locs → va_K D vwCl (tyl cI cZ) s → bz j1 → pX1_rule u = pX1_rule_15 u  j1 → W p l e (headSpec wsX1_rule { frames := 2, cells := 0, slots := 0, locals := 40 }).room s m ([.ref (h 0)] : List Value).toArray below meth c G15 locs 0 0 (MQ below (va_Qi (fun r u9 => r = pX1_rule u ∧ u9 = u) (BW D (tyl cI cZ) A (wM cI cZ h)) A) ([.ref (h 0)] : List Value).toArray s 0 0 A) (F0 m 15 ls [.int j1]) := by
    intro  j1 G15 locs ls hl hP hD hS hK  hzj1 hq
    refine lv_istore_n (lv' := [(1, .int j1), (0, .ref (h 0))]) hx hb dX1_rule_15 rfl hl (by decide) rfl (fun ls hl => ?_)
    refine lv_aload_n hx hb dX1_rule_16 rfl (lv_at hl 1 rfl) ?_
    refine va_get (D := D) (ci := 1) (v := .ref (h 1)) (C := RX1) (T := TX1) (N := 15) hx hb hts hin hown hK hP 0 rfl rfl 10 (by decide) (hts (.fieldLink RX1 7 "ModeDeskModel" "values" "[I") (by decide +kernel)) (fun _ h9 => h9) rfl dX1_rule_17 ?_
    refine lv_bipush (v := 6) hx hb dX1_rule_20 (by decide) ?_
    refine va_iald hx hb hK hP 1 0 rfl rfl (vi_c (by decide)) dX1_rule_22 ?_
    refine lv_iconst (v := 1) hx hb dX1_rule_23 (by decide) ?_
    refine lv_icmp_ne (tgt := 31) hx hb dX1_rule_24 (by decide) (fun c47 => ?_) (fun c47 => ?_)
    · refine lv_iconst (v := 0) hx hb dX1_rule_31 (by decide) ?_
      exact J32  0 j1 G15 _ _ (lv_sub hl [1, 0] rfl) hP hD hS hK  bz0 hzj1 (by rw [hq]; unfold pX1_rule_15; first | (rw [if_neg c47]; done) | (rw [if_neg c47]; rfl))
    · refine lv_iconst (v := 1) hx hb dX1_rule_27 (by decide) ?_
      refine lv_goto (tgt := 32) hx hb dX1_rule_28 (by decide) ?_
      exact J32  1 j1 G15 _ _ (lv_sub hl [1, 0] rfl) hP hD hS hK  bz1 hzj1 (by rw [hq]; unfold pX1_rule_15; first | (rw [if_pos c47]; done) | (rw [if_pos c47]; rfl))
  refine lv_aload_n hx hb dX1_rule_0 rfl (lv_at hl 0 rfl) ?_
  refine va_get (D := D) (ci := 1) (v := .ref (h 1)) (C := RX1) (T := TX1) (N := 15) hx hb hts hin hown hK hP 0 rfl rfl 10 (by decide) (hts (.fieldLink RX1 7 "ModeDeskModel" "values" "[I") (by decide +kernel)) (fun _ h9 => h9) rfl dX1_rule_1 ?_
  refine lv_iconst (v := 5) hx hb dX1_rule_4 (by decide) ?_
  refine va_iald hx hb hK hP 1 0 rfl rfl (vi_c (by decide)) dX1_rule_5 ?_
  refine lv_iconst (v := 1) hx hb dX1_rule_6 (by decide) ?_
  refine lv_icmp_ne (tgt := 14) hx hb dX1_rule_7 (by decide) (fun c48 => ?_) (fun c48 => ?_)
  · refine lv_iconst (v := 0) hx hb dX1_rule_14 (by decide) ?_
    exact J15  0 s.heap _ _ (lv_sub hl [0] rfl) hP hD hS hK  bz0 (by unfold pX1_rule; first | (rw [if_neg c48]; done) | (rw [if_neg c48]; rfl))
  · refine lv_iconst (v := 1) hx hb dX1_rule_10 (by decide) ?_
    refine lv_goto (tgt := 15) hx hb dX1_rule_11 (by decide) ?_
    exact J15  1 s.heap _ _ (lv_sub hl [0] rfl) hP hD hS hK  bz1 (by unfold pX1_rule; first | (rw [if_pos c48]; done) | (rw [if_pos c48]; rfl))
