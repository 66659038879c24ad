abbrev tyl3 (cI cZ cJ : ClassId) : List (ClassId × FieldType) := [(cI, .int), (cZ, .boolean), (cJ, .long)]
/-- the class's cells and the law's long[1] -/
abbrev wO (cI cZ cJ : ClassId) (h : Nat → Nat) (ho : Nat) (w : XS × (Nat → Int64)) : va_W := wX cI cZ h w.1 ++ [(ho, .inl (cJ, 1, .inr (.inl w.2)))]
theorem pr_T {D : va_G} {tys : List (ClassId × FieldType)} {ws : va_W} {av : List Value} {s : State} {H : Heap} {A A0 : Nat → Prop} {sa : Nat → Nat} {tL tH : Nat} {locs : List Loc} (hP : va_P D vwCl ws H) (hK : va_K D vwCl tys s) (hD : va_D A0 ws) (hT : TW A sa tL tH s) (hS : va_S A s.heap H locs) (hF : ∀ q, va_A ws H.size q → A q) : ∀ U : State, U.heap = H → s.WarmedH U.vm → va_Pc av (PcT D tys ws H.size sa tL tH) av.toArray U := fun U hU hW =>
  ⟨rfl, (pr_W (av := av) hP hK hD U hU hW).2, TW.moved (H0 := H) (locs := locs) hT hW (by rw [hU]; exact hS) hF⟩
set_option maxHeartbeats 4000000 in
set_option maxRecDepth 100000 in
theorem kL_press (l : Launch) (hlt : l.stackTraces = false) (D : va_G) (cI cZ cJ : ClassId) (h : Nat → Nat) (ho : Nat) (sa : Nat → Nat) (tL tH : Nat) (sz : Nat) (u : XS) (f : Nat → Int64) (a1 : Int32) (hI : InvX u) : Met l yL_press wsL_press { frames := 7, cells := 1, slots := 6, locals := 151 } (va_Pc [.ref (h 0), .int a1, .ref ho] (PcT D (tyl3 cI cZ cJ) (wO cI cZ cJ h ho (u, f)) sz sa tL tH)) (va_Qi (fun r w => InvX w.1 ∧ ((∃ x : Int32, pX0_press u a1 = some (x, w.1) ∧ r = 0 ∧ w.2 = vp_updL f (Int32.toNatClampNeg 0) x.toInt64) ∨ (pX0_press u a1 = none ∧ r = 1 ∧ w = (u, f)))) (BW D (tyl3 cI cZ cJ) (va_A (wO cI cZ cJ h ho (u, f)) sz) (wO cI cZ cJ h ho)) (va_A (wO cI cZ cJ h ho (u, f)) sz)) 1 6 (va_A (wO cI cZ cJ h ho (u, f)) sz) := by
  refine va_MetW (cc := cL_press) (maxL := 4) (ret := (some .int)) (hh := [(0, 9, 12, 13)]) (by decide) rfl ?_
  intro p e s m args below meth c s₁ B hml hv
  obtain ⟨rfl, ⟨hsz, hP, hK, hD0⟩, hT⟩ := hv
  have hx := B.exec
  have hb := B.bytes
  have hr := B.returns
  have hts := atoms_spec (ws := wsL_press) B.pre
  have hown : s.vm.findClass RL = some m.cls := findClass_of_methodNamed B.named
  have hlocks := B.notSynchronized
  have htab : c.exceptionTable.toList = tableOf [(0, 9, 12, 13)] := vx_table (x := yL_press) B (hts _ List.mem_cons_self)
  subst hsz
  have hD : va_D (va_A (wO cI cZ cJ h ho (u, f)) s.heap.size) (wO cI cZ cJ h ho (u, f)) := hD0.self (sz := s.heap.size)
  have hA : ∀ q : Nat, s.heap.size ≤ q → va_A (wO cI cZ cJ h ho (u, f)) s.heap.size q := fun q h9 => Or.inr h9
  have hS : va_S (va_A (wO cI cZ cJ h ho (u, f)) s.heap.size) s.heap s.heap [] := va_S.rf
  have hl := lv_entry ([.ref (h 0), .int a1, .ref ho]) (n := 4) (Nat.le_of_ble_eq_true rfl)
  rw [lg_entry_eq]
  generalize (lg_sl ([.ref (h 0), .int a1, .ref ho]) ++ List.replicate (4 - (lg_sl ([.ref (h 0), .int a1, .ref ho])).length) Slot.unset).toArray = ls at hl ⊢
  have hl : lv_has ls 4 [(0, .ref (h 0)), (1, .int a1), (2, .ref ho)] := hl
  generalize va_A (wO cI cZ cJ h ho (u, f)) s.heap.size = A at hD hA hS hT ⊢
  refine lv_aload_n hx hb dL_press_0 rfl (lv_at hl 2 rfl) ?_
  refine lv_iconst (v := 0) hx hb dL_press_1 (by decide) ?_
  refine lv_aload_n hx hb dL_press_2 rfl (lv_at hl 0 rfl) ?_
  refine lv_iload_n hx hb dL_press_3 rfl (lv_at hl 1 rfl) ?_
  have hPc := hP.sub (ws' := wX cI cZ h u) [0, 1, 2, 3, 4, 5] rfl
  have hDc := hD.sub (ws' := wX cI cZ h u) [0, 1, 2, 3, 4, 5] (by decide) rfl
  have hKc := hK.sub (tys' := tyl cI cZ) [0, 1] rfl
  have hFc := va_free (wc := wX cI cZ h u) hD hS hA [0, 1, 2, 3, 4, 5] rfl
  refine vx_calli (vx_runV (As := [.int a1]) (rest := [.int 0, .ref ho]) ⟨hx, hb, hml, hown, hts⟩ (kX0_press l hlt D cI cZ h sa tL tH s.heap.size u a1 hI) (cwV 1 hts gL_press_X0_press rfl rfl rfl (by decide +kernel) ⟨Nat.le_of_ble_eq_true rfl, Nat.le_of_ble_eq_true rfl⟩) ⟨bl_T, va_recv hK hP (ci := 0) (q0 := 0) rfl rfl, pr_T hPc hKc hDc hT hS hFc⟩ rfl rfl hl.1 rfl (lv_room (Nat.le_of_ble_eq_true rfl)) dL_press_4 ⟨Nat.le_of_ble_eq_true rfl, Nat.le_of_ble_eq_true rfl⟩) hS (fun q _ h9 => hFc q h9) hFc (fun q _ h9 => hFc q h9) (fun E ce q9 uX t H1 locs ht hvm hpx hBX hz hk1 hS hce hcv hcl => ?_) (fun r1 u1 t H1 locs ht hvm hw hB hz hk1 hS => ?_)
  · obtain ⟨hq, rfl, hIX⟩ := hpx
    obtain ⟨rfl, hP1, hK1, hD1⟩ := hBX
    rw [ht] at hP1
    obtain ⟨hP, hD⟩ := va_join (wr := [(ho, .inl (cJ, 1, .inr (.inl f)))]) (w1 := wX cI cZ h uX) hP hD [0, 1, 2, 3, 4, 5] [6] rfl rfl (by decide) (by decide) hk1 hFc hP1 hD1
    have hP : va_P D vwCl (wO cI cZ cJ h ho (uX, f)) H1 := hP.sub [1, 2, 3, 4, 5, 6, 0] rfl
    have hD : va_D A (wO cI cZ cJ h ho (uX, f)) := hD.sub [1, 2, 3, 4, 5, 6, 0] (by decide) rfl
    refine wx_catch (own := RL) (name := iaeN) (E := iaeN) (x := ⟨0, 9, 12, 13⟩) hown htab (by decide) (by decide) (hts (.classLink RL 13 iaeN) (by decide +kernel)) (vxN_any hT.2.2.2.2.2.2.2.2.2.2.2.2.2 _ (List.mem_cons_self)) hce hcv hcl ?_
    refine lv_astore_n (lv' := [(3, .ref q9), (0, .ref (h 0)), (1, .int a1), (2, .ref ho)]) hx hb dL_press_12 rfl hl (by decide) rfl (fun ls hl => ?_)
    refine lv_iconst (v := 1) hx hb dL_press_13 (by decide) ?_
    exact W.iret (v := 1) hx hb hr (fun t ht hW => ⟨⟨1, (uX, f), rfl, ⟨hIX, Or.inr ⟨hq, rfl, rfl⟩⟩, by rw [ht]; exact hP, va_K.moved hW.alike hK, hD⟩, hS.F ht⟩) hS.2.2 dL_press_14
  · obtain ⟨hP1, hK1, hD1⟩ := hB
    rw [ht] at hP1
    obtain ⟨hq, hI1⟩ := hw
    obtain ⟨hP, hD⟩ := va_join (wr := [(ho, .inl (cJ, 1, .inr (.inl f)))]) (w1 := wX cI cZ h u1) hP hD [0, 1, 2, 3, 4, 5] [6] rfl rfl (by decide) (by decide) hk1 hFc hP1 hD1
    have hP : va_P D vwCl (wO cI cZ cJ h ho (u1, f)) H1 := hP.sub [1, 2, 3, 4, 5, 6, 0] rfl
    have hD : va_D A (wO cI cZ cJ h ho (u1, f)) := hD.sub [1, 2, 3, 4, 5, 6, 0] (by decide) rfl
    refine lv_i2l (v := r1.toInt64) hx hb dL_press_7 rfl ?_
    refine va_last hx hb hK hP hD hS 6 2 rfl rfl (vi_c (by decide)) dL_press_8 (fun H locs hP hD hS => ?_)
    have hP : va_P D vwCl (wO cI cZ cJ h ho (u1, vp_updL f (Int32.toNatClampNeg 0) r1.toInt64)) H := hP
    have hD : va_D A (wO cI cZ cJ h ho (u1, vp_updL f (Int32.toNatClampNeg 0) r1.toInt64)) := hD
    refine lv_goto (tgt := 15) hx hb dL_press_9 (by decide) ?_
    refine lv_iconst (v := 0) hx hb dL_press_15 (by decide) ?_
    exact W.iret (v := 0) hx hb hr (fun t ht hW => ⟨⟨0, (u1, vp_updL f (Int32.toNatClampNeg 0) r1.toInt64), rfl, ⟨hI1, Or.inl ⟨r1, hq.symm, rfl, rfl⟩⟩, by rw [ht]; exact hP, va_K.moved hW.alike hK, hD⟩, hS.F ht⟩) hS.2.2 dL_press_16
set_option maxHeartbeats 4000000 in
set_option maxRecDepth 100000 in
theorem kL_sense (l : Launch) (hlt : l.stackTraces = false) (D : va_G) (cI cZ cJ : ClassId) (h : Nat → Nat) (ho : Nat) (sa : Nat → Nat) (tL tH : Nat) (sz : Nat) (u : XS) (f : Nat → Int64) (a1 a2 : Int32) (hI : InvX u) : Met l yL_sense wsL_sense { frames := 7, cells := 1, slots := 6, locals := 151 } (va_Pc [.ref (h 0), .int a1, .int a2, .ref ho] (PcT D (tyl3 cI cZ cJ) (wO cI cZ cJ h ho (u, f)) sz sa tL tH)) (va_Qi (fun r w => InvX w.1 ∧ ((∃ x : Int32, pX0_sense u a1 a2 = some (x, w.1) ∧ r = 0 ∧ w.2 = vp_updL f (Int32.toNatClampNeg 0) x.toInt64) ∨ (pX0_sense u a1 a2 = none ∧ r = 1 ∧ w = (u, f)))) (BW D (tyl3 cI cZ cJ) (va_A (wO cI cZ cJ h ho (u, f)) sz) (wO cI cZ cJ h ho)) (va_A (wO cI cZ cJ h ho (u, f)) sz)) 1 6 (va_A (wO cI cZ cJ h ho (u, f)) sz) := by
  refine va_MetW (cc := cL_sense) (maxL := 5) (ret := (some .int)) (hh := [(0, 10, 13, 13)]) (by decide) rfl ?_
  intro p e s m args below meth c s₁ B hml hv
  obtain ⟨rfl, ⟨hsz, hP, hK, hD0⟩, hT⟩ := hv
  have hx := B.exec
  have hb := B.bytes
  have hr := B.returns
  have hts := atoms_spec (ws := wsL_sense) B.pre
  have hown : s.vm.findClass RL = some m.cls := findClass_of_methodNamed B.named
  have hlocks := B.notSynchronized
  have htab : c.exceptionTable.toList = tableOf [(0, 10, 13, 13)] := vx_table (x := yL_sense) B (hts _ List.mem_cons_self)
  subst hsz
  have hD : va_D (va_A (wO cI cZ cJ h ho (u, f)) s.heap.size) (wO cI cZ cJ h ho (u, f)) := hD0.self (sz := s.heap.size)
  have hA : ∀ q : Nat, s.heap.size ≤ q → va_A (wO cI cZ cJ h ho (u, f)) s.heap.size q := fun q h9 => Or.inr h9
  have hS : va_S (va_A (wO cI cZ cJ h ho (u, f)) s.heap.size) s.heap s.heap [] := va_S.rf
  have hl := lv_entry ([.ref (h 0), .int a1, .int a2, .ref ho]) (n := 5) (Nat.le_of_ble_eq_true rfl)
  rw [lg_entry_eq]
  generalize (lg_sl ([.ref (h 0), .int a1, .int a2, .ref ho]) ++ List.replicate (5 - (lg_sl ([.ref (h 0), .int a1, .int a2, .ref ho])).length) Slot.unset).toArray = ls at hl ⊢
  have hl : lv_has ls 5 [(0, .ref (h 0)), (1, .int a1), (2, .int a2), (3, .ref ho)] := hl
  generalize va_A (wO cI cZ cJ h ho (u, f)) s.heap.size = A at hD hA hS hT ⊢
  refine lv_aload_n hx hb dL_sense_0 rfl (lv_at hl 3 rfl) ?_
  refine lv_iconst (v := 0) hx hb dL_sense_1 (by decide) ?_
  refine lv_aload_n hx hb dL_sense_2 rfl (lv_at hl 0 rfl) ?_
  refine lv_iload_n hx hb dL_sense_3 rfl (lv_at hl 1 rfl) ?_
  refine lv_iload_n hx hb dL_sense_4 rfl (lv_at hl 2 rfl) ?_
  have hPc := hP.sub (ws' := wX cI cZ h u) [0, 1, 2, 3, 4, 5] rfl
  have hDc := hD.sub (ws' := wX cI cZ h u) [0, 1, 2, 3, 4, 5] (by decide) rfl
  have hKc := hK.sub (tys' := tyl cI cZ) [0, 1] rfl
  have hFc := va_free (wc := wX cI cZ h u) hD hS hA [0, 1, 2, 3, 4, 5] rfl
  refine vx_calli (vx_runV (As := [.int a1, .int a2]) (rest := [.int 0, .ref ho]) ⟨hx, hb, hml, hown, hts⟩ (kX0_sense l hlt D cI cZ h sa tL tH s.heap.size u a1 a2 hI) (cwV 2 hts gL_sense_X0_sense rfl rfl rfl (by decide +kernel) ⟨Nat.le_of_ble_eq_true rfl, Nat.le_of_ble_eq_true rfl⟩) ⟨bl_T, va_recv hK hP (ci := 0) (q0 := 0) rfl rfl, pr_T hPc hKc hDc hT hS hFc⟩ rfl rfl hl.1 rfl (lv_room (Nat.le_of_ble_eq_true rfl)) dL_sense_5 ⟨Nat.le_of_ble_eq_true rfl, Nat.le_of_ble_eq_true rfl⟩) hS (fun q _ h9 => hFc q h9) hFc (fun q _ h9 => hFc q h9) (fun E ce q9 uX t H1 locs ht hvm hpx hBX hz hk1 hS hce hcv hcl => ?_) (fun r1 u1 t H1 locs ht hvm hw hB hz hk1 hS => ?_)
  · obtain ⟨hq, rfl, hIX⟩ := hpx
    obtain ⟨rfl, hP1, hK1, hD1⟩ := hBX
    rw [ht] at hP1
    obtain ⟨hP, hD⟩ := va_join (wr := [(ho, .inl (cJ, 1, .inr (.inl f)))]) (w1 := wX cI cZ h uX) hP hD [0, 1, 2, 3, 4, 5] [6] rfl rfl (by decide) (by decide) hk1 hFc hP1 hD1
    have hP : va_P D vwCl (wO cI cZ cJ h ho (uX, f)) H1 := hP.sub [1, 2, 3, 4, 5, 6, 0] rfl
    have hD : va_D A (wO cI cZ cJ h ho (uX, f)) := hD.sub [1, 2, 3, 4, 5, 6, 0] (by decide) rfl
    refine wx_catch (own := RL) (name := iaeN) (E := iaeN) (x := ⟨0, 10, 13, 13⟩) hown htab (by decide) (by decide) (hts (.classLink RL 13 iaeN) (by decide +kernel)) (vxN_any hT.2.2.2.2.2.2.2.2.2.2.2.2.2 _ (List.mem_cons_self)) hce hcv hcl ?_
    refine lv_astore (lv' := [(4, .ref q9), (0, .ref (h 0)), (1, .int a1), (2, .int a2), (3, .ref ho)]) hx hb dL_sense_13 hl (by decide) rfl (fun ls hl => ?_)
    refine lv_iconst (v := 1) hx hb dL_sense_15 (by decide) ?_
    exact W.iret (v := 1) hx hb hr (fun t ht hW => ⟨⟨1, (uX, f), rfl, ⟨hIX, Or.inr ⟨hq, rfl, rfl⟩⟩, by rw [ht]; exact hP, va_K.moved hW.alike hK, hD⟩, hS.F ht⟩) hS.2.2 dL_sense_16
  · obtain ⟨hP1, hK1, hD1⟩ := hB
    rw [ht] at hP1
    obtain ⟨hq, hI1⟩ := hw
    obtain ⟨hP, hD⟩ := va_join (wr := [(ho, .inl (cJ, 1, .inr (.inl f)))]) (w1 := wX cI cZ h u1) hP hD [0, 1, 2, 3, 4, 5] [6] rfl rfl (by decide) (by decide) hk1 hFc hP1 hD1
    have hP : va_P D vwCl (wO cI cZ cJ h ho (u1, f)) H1 := hP.sub [1, 2, 3, 4, 5, 6, 0] rfl
    have hD : va_D A (wO cI cZ cJ h ho (u1, f)) := hD.sub [1, 2, 3, 4, 5, 6, 0] (by decide) rfl
    refine lv_i2l (v := r1.toInt64) hx hb dL_sense_8 rfl ?_
    refine va_last hx hb hK hP hD hS 6 2 rfl rfl (vi_c (by decide)) dL_sense_9 (fun H locs hP hD hS => ?_)
    have hP : va_P D vwCl (wO cI cZ cJ h ho (u1, vp_updL f (Int32.toNatClampNeg 0) r1.toInt64)) H := hP
    have hD : va_D A (wO cI cZ cJ h ho (u1, vp_updL f (Int32.toNatClampNeg 0) r1.toInt64)) := hD
    refine lv_goto (tgt := 17) hx hb dL_sense_10 (by decide) ?_
    refine lv_iconst (v := 0) hx hb dL_sense_17 (by decide) ?_
    exact W.iret (v := 0) hx hb hr (fun t ht hW => ⟨⟨0, (u1, vp_updL f (Int32.toNatClampNeg 0) r1.toInt64), rfl, ⟨hI1, Or.inl ⟨r1, hq.symm, rfl, rfl⟩⟩, by rw [ht]; exact hP, va_K.moved hW.alike hK, hD⟩, hS.F ht⟩) hS.2.2 dL_sense_18
set_option maxHeartbeats 4000000 in
set_option maxRecDepth 100000 in
theorem kL_channel (l : Launch) (hlt : l.stackTraces = false) (D : va_G) (cI cZ cJ : ClassId) (h : Nat → Nat) (ho : Nat) (sa : Nat → Nat) (tL tH : Nat) (sz : Nat) (u : XS) (f : Nat → Int64) (a1 a2 : Int32) (hI : InvX u) (hb2 : bz a2) : Met l yL_channel wsL_channel { frames := 7, cells := 1, slots := 6, locals := 151 } (va_Pc [.ref (h 0), .int a1, .int a2, .ref ho] (PcT D (tyl3 cI cZ cJ) (wO cI cZ cJ h ho (u, f)) sz sa tL tH)) (va_Qi (fun r w => InvX w.1 ∧ ((∃ x : Int32, pX0_channel u a1 a2 = some (x, w.1) ∧ r = 0 ∧ w.2 = vp_updL f (Int32.toNatClampNeg 0) x.toInt64) ∨ (pX0_channel u a1 a2 = none ∧ r = 1 ∧ w = (u, f)))) (BW D (tyl3 cI cZ cJ) (va_A (wO cI cZ cJ h ho (u, f)) sz) (wO cI cZ cJ h ho)) (va_A (wO cI cZ cJ h ho (u, f)) sz)) 1 6 (va_A (wO cI cZ cJ h ho (u, f)) sz) := by
  refine va_MetW (cc := cL_channel) (maxL := 5) (ret := (some .int)) (hh := [(0, 10, 13, 13)]) (by decide) rfl ?_
  intro p e s m args below meth c s₁ B hml hv
  obtain ⟨rfl, ⟨hsz, hP, hK, hD0⟩, hT⟩ := hv
  have hx := B.exec
  have hb := B.bytes
  have hr := B.returns
  have hts := atoms_spec (ws := wsL_channel) B.pre
  have hown : s.vm.findClass RL = some m.cls := findClass_of_methodNamed B.named
  have hlocks := B.notSynchronized
  have htab : c.exceptionTable.toList = tableOf [(0, 10, 13, 13)] := vx_table (x := yL_channel) B (hts _ List.mem_cons_self)
  subst hsz
  have hD : va_D (va_A (wO cI cZ cJ h ho (u, f)) s.heap.size) (wO cI cZ cJ h ho (u, f)) := hD0.self (sz := s.heap.size)
  have hA : ∀ q : Nat, s.heap.size ≤ q → va_A (wO cI cZ cJ h ho (u, f)) s.heap.size q := fun q h9 => Or.inr h9
  have hS : va_S (va_A (wO cI cZ cJ h ho (u, f)) s.heap.size) s.heap s.heap [] := va_S.rf
  have hl := lv_entry ([.ref (h 0), .int a1, .int a2, .ref ho]) (n := 5) (Nat.le_of_ble_eq_true rfl)
  rw [lg_entry_eq]
  generalize (lg_sl ([.ref (h 0), .int a1, .int a2, .ref ho]) ++ List.replicate (5 - (lg_sl ([.ref (h 0), .int a1, .int a2, .ref ho])).length) Slot.unset).toArray = ls at hl ⊢
  have hl : lv_has ls 5 [(0, .ref (h 0)), (1, .int a1), (2, .int a2), (3, .ref ho)] := hl
  generalize va_A (wO cI cZ cJ h ho (u, f)) s.heap.size = A at hD hA hS hT ⊢
  refine lv_aload_n hx hb dL_channel_0 rfl (lv_at hl 3 rfl) ?_
  refine lv_iconst (v := 0) hx hb dL_channel_1 (by decide) ?_
  refine lv_aload_n hx hb dL_channel_2 rfl (lv_at hl 0 rfl) ?_
  refine lv_iload_n hx hb dL_channel_3 rfl (lv_at hl 1 rfl) ?_
  refine lv_iload_n hx hb dL_channel_4 rfl (lv_at hl 2 rfl) ?_
  have hPc := hP.sub (ws' := wX cI cZ h u) [0, 1, 2, 3, 4, 5] rfl
  have hDc := hD.sub (ws' := wX cI cZ h u) [0, 1, 2, 3, 4, 5] (by decide) rfl
  have hKc := hK.sub (tys' := tyl cI cZ) [0, 1] rfl
  have hFc := va_free (wc := wX cI cZ h u) hD hS hA [0, 1, 2, 3, 4, 5] rfl
  refine vx_calli (vx_runV (As := [.int a1, .int a2]) (rest := [.int 0, .ref ho]) ⟨hx, hb, hml, hown, hts⟩ (kX0_channel l hlt D cI cZ h sa tL tH s.heap.size u a1 a2 hI hb2) (cwV 2 hts gL_channel_X0_channel rfl rfl rfl (by decide +kernel) ⟨Nat.le_of_ble_eq_true rfl, Nat.le_of_ble_eq_true rfl⟩) ⟨bl_T, va_recv hK hP (ci := 0) (q0 := 0) rfl rfl, pr_T hPc hKc hDc hT hS hFc⟩ rfl rfl hl.1 rfl (lv_room (Nat.le_of_ble_eq_true rfl)) dL_channel_5 ⟨Nat.le_of_ble_eq_true rfl, Nat.le_of_ble_eq_true rfl⟩) hS (fun q _ h9 => hFc q h9) hFc (fun q _ h9 => hFc q h9) (fun E ce q9 uX t H1 locs ht hvm hpx hBX hz hk1 hS hce hcv hcl => ?_) (fun r1 u1 t H1 locs ht hvm hw hB hz hk1 hS => ?_)
  · obtain ⟨hq, rfl, hIX⟩ := hpx
    obtain ⟨rfl, hP1, hK1, hD1⟩ := hBX
    rw [ht] at hP1
    obtain ⟨hP, hD⟩ := va_join (wr := [(ho, .inl (cJ, 1, .inr (.inl f)))]) (w1 := wX cI cZ h uX) hP hD [0, 1, 2, 3, 4, 5] [6] rfl rfl (by decide) (by decide) hk1 hFc hP1 hD1
    have hP : va_P D vwCl (wO cI cZ cJ h ho (uX, f)) H1 := hP.sub [1, 2, 3, 4, 5, 6, 0] rfl
    have hD : va_D A (wO cI cZ cJ h ho (uX, f)) := hD.sub [1, 2, 3, 4, 5, 6, 0] (by decide) rfl
    refine wx_catch (own := RL) (name := iaeN) (E := iaeN) (x := ⟨0, 10, 13, 13⟩) hown htab (by decide) (by decide) (hts (.classLink RL 13 iaeN) (by decide +kernel)) (vxN_any hT.2.2.2.2.2.2.2.2.2.2.2.2.2 _ (List.mem_cons_self)) hce hcv hcl ?_
    refine lv_astore (lv' := [(4, .ref q9), (0, .ref (h 0)), (1, .int a1), (2, .int a2), (3, .ref ho)]) hx hb dL_channel_13 hl (by decide) rfl (fun ls hl => ?_)
    refine lv_iconst (v := 1) hx hb dL_channel_15 (by decide) ?_
    exact W.iret (v := 1) hx hb hr (fun t ht hW => ⟨⟨1, (uX, f), rfl, ⟨hIX, Or.inr ⟨hq, rfl, rfl⟩⟩, by rw [ht]; exact hP, va_K.moved hW.alike hK, hD⟩, hS.F ht⟩) hS.2.2 dL_channel_16
  · obtain ⟨hP1, hK1, hD1⟩ := hB
    rw [ht] at hP1
    obtain ⟨hq, hI1⟩ := hw
    obtain ⟨hP, hD⟩ := va_join (wr := [(ho, .inl (cJ, 1, .inr (.inl f)))]) (w1 := wX cI cZ h u1) hP hD [0, 1, 2, 3, 4, 5] [6] rfl rfl (by decide) (by decide) hk1 hFc hP1 hD1
    have hP : va_P D vwCl (wO cI cZ cJ h ho (u1, f)) H1 := hP.sub [1, 2, 3, 4, 5, 6, 0] rfl
    have hD : va_D A (wO cI cZ cJ h ho (u1, f)) := hD.sub [1, 2, 3, 4, 5, 6, 0] (by decide) rfl
    refine lv_i2l (v := r1.toInt64) hx hb dL_channel_8 rfl ?_
    refine va_last hx hb hK hP hD hS 6 2 rfl rfl (vi_c (by decide)) dL_channel_9 (fun H locs hP hD hS => ?_)
    have hP : va_P D vwCl (wO cI cZ cJ h ho (u1, vp_updL f (Int32.toNatClampNeg 0) r1.toInt64)) H := hP
    have hD : va_D A (wO cI cZ cJ h ho (u1, vp_updL f (Int32.toNatClampNeg 0) r1.toInt64)) := hD
    refine lv_goto (tgt := 17) hx hb dL_channel_10 (by decide) ?_
    refine lv_iconst (v := 0) hx hb dL_channel_17 (by decide) ?_
    exact W.iret (v := 0) hx hb hr (fun t ht hW => ⟨⟨0, (u1, vp_updL f (Int32.toNatClampNeg 0) r1.toInt64), rfl, ⟨hI1, Or.inl ⟨r1, hq.symm, rfl, rfl⟩⟩, by rw [ht]; exact hP, va_K.moved hW.alike hK, hD⟩, hS.F ht⟩) hS.2.2 dL_channel_18
set_option maxHeartbeats 4000000 in
set_option maxRecDepth 100000 in
theorem kL_step (l : Launch) (hlt : l.stackTraces = false) (D : va_G) (cI cZ cJ : ClassId) (h : Nat → Nat) (ho : Nat) (sa : Nat → Nat) (tL tH : Nat) (sz : Nat) (u : XS) (f : Nat → Int64) (a1 : Int32) (hI : InvX u) : Met l yL_step wsL_step { frames := 7, cells := 1, slots := 6, locals := 113 } (va_Pc [.ref (h 0), .int a1, .ref ho] (PcT D (tyl3 cI cZ cJ) (wO cI cZ cJ h ho (u, f)) sz sa tL tH)) (va_Qi (fun r w => InvX w.1 ∧ ((∃ x : Int32, pX0_step u a1 = some (x, w.1) ∧ r = 0 ∧ w.2 = vp_updL f (Int32.toNatClampNeg 0) x.toInt64) ∨ (pX0_step u a1 = none ∧ r = 1 ∧ w = (u, f)))) (BW D (tyl3 cI cZ cJ) (va_A (wO cI cZ cJ h ho (u, f)) sz) (wO cI cZ cJ h ho)) (va_A (wO cI cZ cJ h ho (u, f)) sz)) 1 6 (va_A (wO cI cZ cJ h ho (u, f)) sz) := by
  refine va_MetW (cc := cL_step) (maxL := 4) (ret := (some .int)) (hh := [(0, 9, 12, 13)]) (by decide) rfl ?_
  intro p e s m args below meth c s₁ B hml hv
  obtain ⟨rfl, ⟨hsz, hP, hK, hD0⟩, hT⟩ := hv
  have hx := B.exec
  have hb := B.bytes
  have hr := B.returns
  have hts := atoms_spec (ws := wsL_step) B.pre
  have hown : s.vm.findClass RL = some m.cls := findClass_of_methodNamed B.named
  have hlocks := B.notSynchronized
  have htab : c.exceptionTable.toList = tableOf [(0, 9, 12, 13)] := vx_table (x := yL_step) B (hts _ List.mem_cons_self)
  subst hsz
  have hD : va_D (va_A (wO cI cZ cJ h ho (u, f)) s.heap.size) (wO cI cZ cJ h ho (u, f)) := hD0.self (sz := s.heap.size)
  have hA : ∀ q : Nat, s.heap.size ≤ q → va_A (wO cI cZ cJ h ho (u, f)) s.heap.size q := fun q h9 => Or.inr h9
  have hS : va_S (va_A (wO cI cZ cJ h ho (u, f)) s.heap.size) s.heap s.heap [] := va_S.rf
  have hl := lv_entry ([.ref (h 0), .int a1, .ref ho]) (n := 4) (Nat.le_of_ble_eq_true rfl)
  rw [lg_entry_eq]
  generalize (lg_sl ([.ref (h 0), .int a1, .ref ho]) ++ List.replicate (4 - (lg_sl ([.ref (h 0), .int a1, .ref ho])).length) Slot.unset).toArray = ls at hl ⊢
  have hl : lv_has ls 4 [(0, .ref (h 0)), (1, .int a1), (2, .ref ho)] := hl
  generalize va_A (wO cI cZ cJ h ho (u, f)) s.heap.size = A at hD hA hS hT ⊢
  refine lv_aload_n hx hb dL_step_0 rfl (lv_at hl 2 rfl) ?_
  refine lv_iconst (v := 0) hx hb dL_step_1 (by decide) ?_
  refine lv_aload_n hx hb dL_step_2 rfl (lv_at hl 0 rfl) ?_
  refine lv_iload_n hx hb dL_step_3 rfl (lv_at hl 1 rfl) ?_
  have hPc := hP.sub (ws' := wX cI cZ h u) [0, 1, 2, 3, 4, 5] rfl
  have hDc := hD.sub (ws' := wX cI cZ h u) [0, 1, 2, 3, 4, 5] (by decide) rfl
  have hKc := hK.sub (tys' := tyl cI cZ) [0, 1] rfl
  have hFc := va_free (wc := wX cI cZ h u) hD hS hA [0, 1, 2, 3, 4, 5] rfl
  refine vx_calli (vx_runV (As := [.int a1]) (rest := [.int 0, .ref ho]) ⟨hx, hb, hml, hown, hts⟩ (kX0_step l hlt D cI cZ h sa tL tH s.heap.size u a1 hI) (cwV 1 hts gL_step_X0_step rfl rfl rfl (by decide +kernel) ⟨Nat.le_of_ble_eq_true rfl, Nat.le_of_ble_eq_true rfl⟩) ⟨bl_T, va_recv hK hP (ci := 0) (q0 := 0) rfl rfl, pr_T hPc hKc hDc hT hS hFc⟩ rfl rfl hl.1 rfl (lv_room (Nat.le_of_ble_eq_true rfl)) dL_step_4 ⟨Nat.le_of_ble_eq_true rfl, Nat.le_of_ble_eq_true rfl⟩) hS (fun q _ h9 => hFc q h9) hFc (fun q _ h9 => hFc q h9) (fun E ce q9 uX t H1 locs ht hvm hpx hBX hz hk1 hS hce hcv hcl => ?_) (fun r1 u1 t H1 locs ht hvm hw hB hz hk1 hS => ?_)
  · obtain ⟨hq, rfl, hIX⟩ := hpx
    obtain ⟨rfl, hP1, hK1, hD1⟩ := hBX
    rw [ht] at hP1
    obtain ⟨hP, hD⟩ := va_join (wr := [(ho, .inl (cJ, 1, .inr (.inl f)))]) (w1 := wX cI cZ h uX) hP hD [0, 1, 2, 3, 4, 5] [6] rfl rfl (by decide) (by decide) hk1 hFc hP1 hD1
    have hP : va_P D vwCl (wO cI cZ cJ h ho (uX, f)) H1 := hP.sub [1, 2, 3, 4, 5, 6, 0] rfl
    have hD : va_D A (wO cI cZ cJ h ho (uX, f)) := hD.sub [1, 2, 3, 4, 5, 6, 0] (by decide) rfl
    refine wx_catch (own := RL) (name := iaeN) (E := iaeN) (x := ⟨0, 9, 12, 13⟩) hown htab (by decide) (by decide) (hts (.classLink RL 13 iaeN) (by decide +kernel)) (vxN_any hT.2.2.2.2.2.2.2.2.2.2.2.2.2 _ (List.mem_cons_self)) hce hcv hcl ?_
    refine lv_astore_n (lv' := [(3, .ref q9), (0, .ref (h 0)), (1, .int a1), (2, .ref ho)]) hx hb dL_step_12 rfl hl (by decide) rfl (fun ls hl => ?_)
    refine lv_iconst (v := 1) hx hb dL_step_13 (by decide) ?_
    exact W.iret (v := 1) hx hb hr (fun t ht hW => ⟨⟨1, (uX, f), rfl, ⟨hIX, Or.inr ⟨hq, rfl, rfl⟩⟩, by rw [ht]; exact hP, va_K.moved hW.alike hK, hD⟩, hS.F ht⟩) hS.2.2 dL_step_14
  · obtain ⟨hP1, hK1, hD1⟩ := hB
    rw [ht] at hP1
    obtain ⟨hq, hI1⟩ := hw
    obtain ⟨hP, hD⟩ := va_join (wr := [(ho, .inl (cJ, 1, .inr (.inl f)))]) (w1 := wX cI cZ h u1) hP hD [0, 1, 2, 3, 4, 5] [6] rfl rfl (by decide) (by decide) hk1 hFc hP1 hD1
    have hP : va_P D vwCl (wO cI cZ cJ h ho (u1, f)) H1 := hP.sub [1, 2, 3, 4, 5, 6, 0] rfl
    have hD : va_D A (wO cI cZ cJ h ho (u1, f)) := hD.sub [1, 2, 3, 4, 5, 6, 0] (by decide) rfl
    refine lv_i2l (v := r1.toInt64) hx hb dL_step_7 rfl ?_
    refine va_last hx hb hK hP hD hS 6 2 rfl rfl (vi_c (by decide)) dL_step_8 (fun H locs hP hD hS => ?_)
    have hP : va_P D vwCl (wO cI cZ cJ h ho (u1, vp_updL f (Int32.toNatClampNeg 0) r1.toInt64)) H := hP
    have hD : va_D A (wO cI cZ cJ h ho (u1, vp_updL f (Int32.toNatClampNeg 0) r1.toInt64)) := hD
    refine lv_goto (tgt := 15) hx hb dL_step_9 (by decide) ?_
    refine lv_iconst (v := 0) hx hb dL_step_15 (by decide) ?_
    exact W.iret (v := 0) hx hb hr (fun t ht hW => ⟨⟨0, (u1, vp_updL f (Int32.toNatClampNeg 0) r1.toInt64), rfl, ⟨hI1, Or.inl ⟨r1, hq.symm, rfl, rfl⟩⟩, by rw [ht]; exact hP, va_K.moved hW.alike hK, hD⟩, hS.F ht⟩) hS.2.2 dL_step_16
set_option maxHeartbeats 4000000 in
set_option maxRecDepth 100000 in
theorem kL_mode (l : Launch) (hlt : l.stackTraces = false) (D : va_G) (cI cZ cJ : ClassId) (h : Nat → Nat) (ho : Nat) (sa : Nat → Nat) (tL tH : Nat) (sz : Nat) (u : XS) (f : Nat → Int64) (a1 : Int32) (hI : InvX u) : Met l yL_mode wsL_mode { frames := 7, cells := 1, slots := 6, locals := 111 } (va_Pc [.ref (h 0), .int a1, .ref ho] (PcT D (tyl3 cI cZ cJ) (wO cI cZ cJ h ho (u, f)) sz sa tL tH)) (va_Qi (fun r w => InvX w.1 ∧ ((∃ x : Int32, pX0_mode u a1 = some (x, w.1) ∧ r = 0 ∧ w.2 = vp_updL f (Int32.toNatClampNeg 0) x.toInt64) ∨ (pX0_mode u a1 = none ∧ r = 1 ∧ w = (u, f)))) (BW D (tyl3 cI cZ cJ) (va_A (wO cI cZ cJ h ho (u, f)) sz) (wO cI cZ cJ h ho)) (va_A (wO cI cZ cJ h ho (u, f)) sz)) 1 6 (va_A (wO cI cZ cJ h ho (u, f)) sz) := by
  refine va_MetW (cc := cL_mode) (maxL := 4) (ret := (some .int)) (hh := [(0, 9, 12, 13)]) (by decide) rfl ?_
  intro p e s m args below meth c s₁ B hml hv
  obtain ⟨rfl, ⟨hsz, hP, hK, hD0⟩, hT⟩ := hv
  have hx := B.exec
  have hb := B.bytes
  have hr := B.returns
  have hts := atoms_spec (ws := wsL_mode) B.pre
  have hown : s.vm.findClass RL = some m.cls := findClass_of_methodNamed B.named
  have hlocks := B.notSynchronized
  have htab : c.exceptionTable.toList = tableOf [(0, 9, 12, 13)] := vx_table (x := yL_mode) B (hts _ List.mem_cons_self)
  subst hsz
  have hD : va_D (va_A (wO cI cZ cJ h ho (u, f)) s.heap.size) (wO cI cZ cJ h ho (u, f)) := hD0.self (sz := s.heap.size)
  have hA : ∀ q : Nat, s.heap.size ≤ q → va_A (wO cI cZ cJ h ho (u, f)) s.heap.size q := fun q h9 => Or.inr h9
  have hS : va_S (va_A (wO cI cZ cJ h ho (u, f)) s.heap.size) s.heap s.heap [] := va_S.rf
  have hl := lv_entry ([.ref (h 0), .int a1, .ref ho]) (n := 4) (Nat.le_of_ble_eq_true rfl)
  rw [lg_entry_eq]
  generalize (lg_sl ([.ref (h 0), .int a1, .ref ho]) ++ List.replicate (4 - (lg_sl ([.ref (h 0), .int a1, .ref ho])).length) Slot.unset).toArray = ls at hl ⊢
  have hl : lv_has ls 4 [(0, .ref (h 0)), (1, .int a1), (2, .ref ho)] := hl
  generalize va_A (wO cI cZ cJ h ho (u, f)) s.heap.size = A at hD hA hS hT ⊢
  refine lv_aload_n hx hb dL_mode_0 rfl (lv_at hl 2 rfl) ?_
  refine lv_iconst (v := 0) hx hb dL_mode_1 (by decide) ?_
  refine lv_aload_n hx hb dL_mode_2 rfl (lv_at hl 0 rfl) ?_
  refine lv_iload_n hx hb dL_mode_3 rfl (lv_at hl 1 rfl) ?_
  have hPc := hP.sub (ws' := wX cI cZ h u) [0, 1, 2, 3, 4, 5] rfl
  have hDc := hD.sub (ws' := wX cI cZ h u) [0, 1, 2, 3, 4, 5] (by decide) rfl
  have hKc := hK.sub (tys' := tyl cI cZ) [0, 1] rfl
  have hFc := va_free (wc := wX cI cZ h u) hD hS hA [0, 1, 2, 3, 4, 5] rfl
  refine vx_calli (vx_runV (As := [.int a1]) (rest := [.int 0, .ref ho]) ⟨hx, hb, hml, hown, hts⟩ (kX0_mode l hlt D cI cZ h sa tL tH s.heap.size u a1 hI) (cwV 1 hts gL_mode_X0_mode rfl rfl rfl (by decide +kernel) ⟨Nat.le_of_ble_eq_true rfl, Nat.le_of_ble_eq_true rfl⟩) ⟨bl_T, va_recv hK hP (ci := 0) (q0 := 0) rfl rfl, pr_T hPc hKc hDc hT hS hFc⟩ rfl rfl hl.1 rfl (lv_room (Nat.le_of_ble_eq_true rfl)) dL_mode_4 ⟨Nat.le_of_ble_eq_true rfl, Nat.le_of_ble_eq_true rfl⟩) hS (fun q _ h9 => hFc q h9) hFc (fun q _ h9 => hFc q h9) (fun E ce q9 uX t H1 locs ht hvm hpx hBX hz hk1 hS hce hcv hcl => ?_) (fun r1 u1 t H1 locs ht hvm hw hB hz hk1 hS => ?_)
  · obtain ⟨hq, rfl, hIX⟩ := hpx
    obtain ⟨rfl, hP1, hK1, hD1⟩ := hBX
    rw [ht] at hP1
    obtain ⟨hP, hD⟩ := va_join (wr := [(ho, .inl (cJ, 1, .inr (.inl f)))]) (w1 := wX cI cZ h uX) hP hD [0, 1, 2, 3, 4, 5] [6] rfl rfl (by decide) (by decide) hk1 hFc hP1 hD1
    have hP : va_P D vwCl (wO cI cZ cJ h ho (uX, f)) H1 := hP.sub [1, 2, 3, 4, 5, 6, 0] rfl
    have hD : va_D A (wO cI cZ cJ h ho (uX, f)) := hD.sub [1, 2, 3, 4, 5, 6, 0] (by decide) rfl
    refine wx_catch (own := RL) (name := iaeN) (E := iaeN) (x := ⟨0, 9, 12, 13⟩) hown htab (by decide) (by decide) (hts (.classLink RL 13 iaeN) (by decide +kernel)) (vxN_any hT.2.2.2.2.2.2.2.2.2.2.2.2.2 _ (List.mem_cons_self)) hce hcv hcl ?_
    refine lv_astore_n (lv' := [(3, .ref q9), (0, .ref (h 0)), (1, .int a1), (2, .ref ho)]) hx hb dL_mode_12 rfl hl (by decide) rfl (fun ls hl => ?_)
    refine lv_iconst (v := 1) hx hb dL_mode_13 (by decide) ?_
    exact W.iret (v := 1) hx hb hr (fun t ht hW => ⟨⟨1, (uX, f), rfl, ⟨hIX, Or.inr ⟨hq, rfl, rfl⟩⟩, by rw [ht]; exact hP, va_K.moved hW.alike hK, hD⟩, hS.F ht⟩) hS.2.2 dL_mode_14
  · obtain ⟨hP1, hK1, hD1⟩ := hB
    rw [ht] at hP1
    obtain ⟨hq, hI1⟩ := hw
    obtain ⟨hP, hD⟩ := va_join (wr := [(ho, .inl (cJ, 1, .inr (.inl f)))]) (w1 := wX cI cZ h u1) hP hD [0, 1, 2, 3, 4, 5] [6] rfl rfl (by decide) (by decide) hk1 hFc hP1 hD1
    have hP : va_P D vwCl (wO cI cZ cJ h ho (u1, f)) H1 := hP.sub [1, 2, 3, 4, 5, 6, 0] rfl
    have hD : va_D A (wO cI cZ cJ h ho (u1, f)) := hD.sub [1, 2, 3, 4, 5, 6, 0] (by decide) rfl
    refine lv_i2l (v := r1.toInt64) hx hb dL_mode_7 rfl ?_
    refine va_last hx hb hK hP hD hS 6 2 rfl rfl (vi_c (by decide)) dL_mode_8 (fun H locs hP hD hS => ?_)
    have hP : va_P D vwCl (wO cI cZ cJ h ho (u1, vp_updL f (Int32.toNatClampNeg 0) r1.toInt64)) H := hP
    have hD : va_D A (wO cI cZ cJ h ho (u1, vp_updL f (Int32.toNatClampNeg 0) r1.toInt64)) := hD
    refine lv_goto (tgt := 15) hx hb dL_mode_9 (by decide) ?_
    refine lv_iconst (v := 0) hx hb dL_mode_15 (by decide) ?_
    exact W.iret (v := 0) hx hb hr (fun t ht hW => ⟨⟨0, (u1, vp_updL f (Int32.toNatClampNeg 0) r1.toInt64), rfl, ⟨hI1, Or.inl ⟨r1, hq.symm, rfl, rfl⟩⟩, by rw [ht]; exact hP, va_K.moved hW.alike hK, hD⟩, hS.F ht⟩) hS.2.2 dL_mode_16
set_option maxHeartbeats 4000000 in
set_option maxRecDepth 100000 in
theorem kL_armed (l : Launch) (hlt : l.stackTraces = false) (D : va_G) (cI cZ cJ : ClassId) (h : Nat → Nat) (ho : Nat) (sa : Nat → Nat) (tL tH : Nat) (sz : Nat) (u : XS) (f : Nat → Int64) (a1 : Int32) (hI : InvX u) : Met l yL_armed wsL_armed { frames := 7, cells := 1, slots := 6, locals := 111 } (va_Pc [.ref (h 0), .int a1, .ref ho] (PcT D (tyl3 cI cZ cJ) (wO cI cZ cJ h ho (u, f)) sz sa tL tH)) (va_Qi (fun r w => InvX w.1 ∧ ((∃ x : Int32, pX0_armed u a1 = some (x, w.1) ∧ r = 0 ∧ w.2 = vp_updL f (Int32.toNatClampNeg 0) (if x = 0 then 0 else 1)) ∨ (pX0_armed u a1 = none ∧ r = 1 ∧ w = (u, f)))) (BW D (tyl3 cI cZ cJ) (va_A (wO cI cZ cJ h ho (u, f)) sz) (wO cI cZ cJ h ho)) (va_A (wO cI cZ cJ h ho (u, f)) sz)) 1 6 (va_A (wO cI cZ cJ h ho (u, f)) sz) := by
  refine va_MetW (cc := cL_armed) (maxL := 4) (ret := (some .int)) (hh := [(0, 16, 19, 13)]) (by decide) rfl ?_
  intro p e s m args below meth c s₁ B hml hv
  obtain ⟨rfl, ⟨hsz, hP, hK, hD0⟩, hT⟩ := hv
  have hx := B.exec
  have hb := B.bytes
  have hr := B.returns
  have hts := atoms_spec (ws := wsL_armed) B.pre
  have hown : s.vm.findClass RL = some m.cls := findClass_of_methodNamed B.named
  have hlocks := B.notSynchronized
  have htab : c.exceptionTable.toList = tableOf [(0, 16, 19, 13)] := vx_table (x := yL_armed) B (hts _ List.mem_cons_self)
  subst hsz
  have hD : va_D (va_A (wO cI cZ cJ h ho (u, f)) s.heap.size) (wO cI cZ cJ h ho (u, f)) := hD0.self (sz := s.heap.size)
  have hA : ∀ q : Nat, s.heap.size ≤ q → va_A (wO cI cZ cJ h ho (u, f)) s.heap.size q := fun q h9 => Or.inr h9
  have hS : va_S (va_A (wO cI cZ cJ h ho (u, f)) s.heap.size) s.heap s.heap [] := va_S.rf
  have hl := lv_entry ([.ref (h 0), .int a1, .ref ho]) (n := 4) (Nat.le_of_ble_eq_true rfl)
  rw [lg_entry_eq]
  generalize (lg_sl ([.ref (h 0), .int a1, .ref ho]) ++ List.replicate (4 - (lg_sl ([.ref (h 0), .int a1, .ref ho])).length) Slot.unset).toArray = ls at hl ⊢
  have hl : lv_has ls 4 [(0, .ref (h 0)), (1, .int a1), (2, .ref ho)] := hl
  generalize va_A (wO cI cZ cJ h ho (u, f)) s.heap.size = A at hD hA hS hT ⊢
  refine lv_aload_n hx hb dL_armed_0 rfl (lv_at hl 2 rfl) ?_
  refine lv_iconst (v := 0) hx hb dL_armed_1 (by decide) ?_
  refine lv_aload_n hx hb dL_armed_2 rfl (lv_at hl 0 rfl) ?_
  refine lv_iload_n hx hb dL_armed_3 rfl (lv_at hl 1 rfl) ?_
  have hPc := hP.sub (ws' := wX cI cZ h u) [0, 1, 2, 3, 4, 5] rfl
  have hDc := hD.sub (ws' := wX cI cZ h u) [0, 1, 2, 3, 4, 5] (by decide) rfl
  have hKc := hK.sub (tys' := tyl cI cZ) [0, 1] rfl
  have hFc := va_free (wc := wX cI cZ h u) hD hS hA [0, 1, 2, 3, 4, 5] rfl
  refine vx_calli (vx_runV (As := [.int a1]) (rest := [.int 0, .ref ho]) ⟨hx, hb, hml, hown, hts⟩ (kX0_armed l hlt D cI cZ h sa tL tH s.heap.size u a1 hI) (cwV 1 hts gL_armed_X0_armed rfl rfl rfl (by decide +kernel) ⟨Nat.le_of_ble_eq_true rfl, Nat.le_of_ble_eq_true rfl⟩) ⟨bl_T, va_recv hK hP (ci := 0) (q0 := 0) rfl rfl, pr_T hPc hKc hDc hT hS hFc⟩ rfl rfl hl.1 rfl (lv_room (Nat.le_of_ble_eq_true rfl)) dL_armed_4 ⟨Nat.le_of_ble_eq_true rfl, Nat.le_of_ble_eq_true rfl⟩) hS (fun q _ h9 => hFc q h9) hFc (fun q _ h9 => hFc q h9) (fun E ce q9 uX t H1 locs ht hvm hpx hBX hz hk1 hS hce hcv hcl => ?_) (fun r1 u1 t H1 locs ht hvm hw hB hz hk1 hS => ?_)
  · obtain ⟨hq, rfl, hIX⟩ := hpx
    obtain ⟨rfl, hP1, hK1, hD1⟩ := hBX
    rw [ht] at hP1
    obtain ⟨hP, hD⟩ := va_join (wr := [(ho, .inl (cJ, 1, .inr (.inl f)))]) (w1 := wX cI cZ h uX) hP hD [0, 1, 2, 3, 4, 5] [6] rfl rfl (by decide) (by decide) hk1 hFc hP1 hD1
    have hP : va_P D vwCl (wO cI cZ cJ h ho (uX, f)) H1 := hP.sub [1, 2, 3, 4, 5, 6, 0] rfl
    have hD : va_D A (wO cI cZ cJ h ho (uX, f)) := hD.sub [1, 2, 3, 4, 5, 6, 0] (by decide) rfl
    refine wx_catch (own := RL) (name := iaeN) (E := iaeN) (x := ⟨0, 16, 19, 13⟩) hown htab (by decide) (by decide) (hts (.classLink RL 13 iaeN) (by decide +kernel)) (vxN_any hT.2.2.2.2.2.2.2.2.2.2.2.2.2 _ (List.mem_cons_self)) hce hcv hcl ?_
    refine lv_astore_n (lv' := [(3, .ref q9), (0, .ref (h 0)), (1, .int a1), (2, .ref ho)]) hx hb dL_armed_19 rfl hl (by decide) rfl (fun ls hl => ?_)
    refine lv_iconst (v := 1) hx hb dL_armed_20 (by decide) ?_
    exact W.iret (v := 1) hx hb hr (fun t ht hW => ⟨⟨1, (uX, f), rfl, ⟨hIX, Or.inr ⟨hq, rfl, rfl⟩⟩, by rw [ht]; exact hP, va_K.moved hW.alike hK, hD⟩, hS.F ht⟩) hS.2.2 dL_armed_21
  · obtain ⟨hP1, hK1, hD1⟩ := hB
    rw [ht] at hP1
    obtain ⟨hq, hI1, hbr⟩ := hw
    obtain ⟨hP, hD⟩ := va_join (wr := [(ho, .inl (cJ, 1, .inr (.inl f)))]) (w1 := wX cI cZ h u1) hP hD [0, 1, 2, 3, 4, 5] [6] rfl rfl (by decide) (by decide) hk1 hFc hP1 hD1
    have hP : va_P D vwCl (wO cI cZ cJ h ho (u1, f)) H1 := hP.sub [1, 2, 3, 4, 5, 6, 0] rfl
    have hD : va_D A (wO cI cZ cJ h ho (u1, f)) := hD.sub [1, 2, 3, 4, 5, 6, 0] (by decide) rfl
    refine lv_if_eq (tgt := 14) hx hb dL_armed_7 (by decide) (fun c1 => ?_) (fun c1 => ?_)
    · refine lv_lconst (v := 0) hx hb dL_armed_14 (by decide) ?_
      refine va_last hx hb hK hP hD hS 6 2 rfl rfl (vi_c (by decide)) dL_armed_15 (fun H locs hP hD hS => ?_)
      have hP : va_P D vwCl (wO cI cZ cJ h ho (u1, vp_updL f (Int32.toNatClampNeg 0) 0)) H := hP
      have hD : va_D A (wO cI cZ cJ h ho (u1, vp_updL f (Int32.toNatClampNeg 0) 0)) := hD
      refine lv_goto (tgt := 22) hx hb dL_armed_16 (by decide) ?_
      refine lv_iconst (v := 0) hx hb dL_armed_22 (by decide) ?_
      exact W.iret (v := 0) hx hb hr (fun t ht hW => ⟨⟨0, (u1, vp_updL f (Int32.toNatClampNeg 0) 0), rfl, ⟨hI1, Or.inl ⟨r1, hq.symm, rfl, by rw [if_pos c1]⟩⟩, by rw [ht]; exact hP, va_K.moved hW.alike hK, hD⟩, hS.F ht⟩) hS.2.2 dL_armed_23
    · refine lv_lconst (v := 1) hx hb dL_armed_10 (by decide) ?_
      refine lv_goto (tgt := 15) hx hb dL_armed_11 (by decide) ?_
      refine va_last hx hb hK hP hD hS 6 2 rfl rfl (vi_c (by decide)) dL_armed_15 (fun H locs hP hD hS => ?_)
      have hP : va_P D vwCl (wO cI cZ cJ h ho (u1, vp_updL f (Int32.toNatClampNeg 0) 1)) H := hP
      have hD : va_D A (wO cI cZ cJ h ho (u1, vp_updL f (Int32.toNatClampNeg 0) 1)) := hD
      refine lv_goto (tgt := 22) hx hb dL_armed_16 (by decide) ?_
      refine lv_iconst (v := 0) hx hb dL_armed_22 (by decide) ?_
      exact W.iret (v := 0) hx hb hr (fun t ht hW => ⟨⟨0, (u1, vp_updL f (Int32.toNatClampNeg 0) 1), rfl, ⟨hI1, Or.inl ⟨r1, hq.symm, rfl, by rw [if_neg c1]⟩⟩, by rw [ht]; exact hP, va_K.moved hW.alike hK, hD⟩, hS.F ht⟩) hS.2.2 dL_armed_23
set_option maxHeartbeats 4000000 in
set_option maxRecDepth 100000 in
theorem kL_measure (l : Launch) (hlt : l.stackTraces = false) (D : va_G) (cI cZ cJ : ClassId) (h : Nat → Nat) (ho : Nat) (sa : Nat → Nat) (tL tH : Nat) (sz : Nat) (u : XS) (f : Nat → Int64) (a1 : Int32) (hI : InvX u) : Met l yL_measure wsL_measure { frames := 7, cells := 1, slots := 6, locals := 111 } (va_Pc [.ref (h 0), .int a1, .ref ho] (PcT D (tyl3 cI cZ cJ) (wO cI cZ cJ h ho (u, f)) sz sa tL tH)) (va_Qi (fun r w => InvX w.1 ∧ ((∃ x : Int32, pX0_measure u a1 = some (x, w.1) ∧ r = 0 ∧ w.2 = vp_updL f (Int32.toNatClampNeg 0) x.toInt64) ∨ (pX0_measure u a1 = none ∧ r = 1 ∧ w = (u, f)))) (BW D (tyl3 cI cZ cJ) (va_A (wO cI cZ cJ h ho (u, f)) sz) (wO cI cZ cJ h ho)) (va_A (wO cI cZ cJ h ho (u, f)) sz)) 1 6 (va_A (wO cI cZ cJ h ho (u, f)) sz) := by
  refine va_MetW (cc := cL_measure) (maxL := 4) (ret := (some .int)) (hh := [(0, 9, 12, 13)]) (by decide) rfl ?_
  intro p e s m args below meth c s₁ B hml hv
  obtain ⟨rfl, ⟨hsz, hP, hK, hD0⟩, hT⟩ := hv
  have hx := B.exec
  have hb := B.bytes
  have hr := B.returns
  have hts := atoms_spec (ws := wsL_measure) B.pre
  have hown : s.vm.findClass RL = some m.cls := findClass_of_methodNamed B.named
  have hlocks := B.notSynchronized
  have htab : c.exceptionTable.toList = tableOf [(0, 9, 12, 13)] := vx_table (x := yL_measure) B (hts _ List.mem_cons_self)
  subst hsz
  have hD : va_D (va_A (wO cI cZ cJ h ho (u, f)) s.heap.size) (wO cI cZ cJ h ho (u, f)) := hD0.self (sz := s.heap.size)
  have hA : ∀ q : Nat, s.heap.size ≤ q → va_A (wO cI cZ cJ h ho (u, f)) s.heap.size q := fun q h9 => Or.inr h9
  have hS : va_S (va_A (wO cI cZ cJ h ho (u, f)) s.heap.size) s.heap s.heap [] := va_S.rf
  have hl := lv_entry ([.ref (h 0), .int a1, .ref ho]) (n := 4) (Nat.le_of_ble_eq_true rfl)
  rw [lg_entry_eq]
  generalize (lg_sl ([.ref (h 0), .int a1, .ref ho]) ++ List.replicate (4 - (lg_sl ([.ref (h 0), .int a1, .ref ho])).length) Slot.unset).toArray = ls at hl ⊢
  have hl : lv_has ls 4 [(0, .ref (h 0)), (1, .int a1), (2, .ref ho)] := hl
  generalize va_A (wO cI cZ cJ h ho (u, f)) s.heap.size = A at hD hA hS hT ⊢
  refine lv_aload_n hx hb dL_measure_0 rfl (lv_at hl 2 rfl) ?_
  refine lv_iconst (v := 0) hx hb dL_measure_1 (by decide) ?_
  refine lv_aload_n hx hb dL_measure_2 rfl (lv_at hl 0 rfl) ?_
  refine lv_iload_n hx hb dL_measure_3 rfl (lv_at hl 1 rfl) ?_
  have hPc := hP.sub (ws' := wX cI cZ h u) [0, 1, 2, 3, 4, 5] rfl
  have hDc := hD.sub (ws' := wX cI cZ h u) [0, 1, 2, 3, 4, 5] (by decide) rfl
  have hKc := hK.sub (tys' := tyl cI cZ) [0, 1] rfl
  have hFc := va_free (wc := wX cI cZ h u) hD hS hA [0, 1, 2, 3, 4, 5] rfl
  refine vx_calli (vx_runV (As := [.int a1]) (rest := [.int 0, .ref ho]) ⟨hx, hb, hml, hown, hts⟩ (kX0_measure l hlt D cI cZ h sa tL tH s.heap.size u a1 hI) (cwV 1 hts gL_measure_X0_measure rfl rfl rfl (by decide +kernel) ⟨Nat.le_of_ble_eq_true rfl, Nat.le_of_ble_eq_true rfl⟩) ⟨bl_T, va_recv hK hP (ci := 0) (q0 := 0) rfl rfl, pr_T hPc hKc hDc hT hS hFc⟩ rfl rfl hl.1 rfl (lv_room (Nat.le_of_ble_eq_true rfl)) dL_measure_4 ⟨Nat.le_of_ble_eq_true rfl, Nat.le_of_ble_eq_true rfl⟩) hS (fun q _ h9 => hFc q h9) hFc (fun q _ h9 => hFc q h9) (fun E ce q9 uX t H1 locs ht hvm hpx hBX hz hk1 hS hce hcv hcl => ?_) (fun r1 u1 t H1 locs ht hvm hw hB hz hk1 hS => ?_)
  · obtain ⟨hq, rfl, hIX⟩ := hpx
    obtain ⟨rfl, hP1, hK1, hD1⟩ := hBX
    rw [ht] at hP1
    obtain ⟨hP, hD⟩ := va_join (wr := [(ho, .inl (cJ, 1, .inr (.inl f)))]) (w1 := wX cI cZ h uX) hP hD [0, 1, 2, 3, 4, 5] [6] rfl rfl (by decide) (by decide) hk1 hFc hP1 hD1
    have hP : va_P D vwCl (wO cI cZ cJ h ho (uX, f)) H1 := hP.sub [1, 2, 3, 4, 5, 6, 0] rfl
    have hD : va_D A (wO cI cZ cJ h ho (uX, f)) := hD.sub [1, 2, 3, 4, 5, 6, 0] (by decide) rfl
    refine wx_catch (own := RL) (name := iaeN) (E := iaeN) (x := ⟨0, 9, 12, 13⟩) hown htab (by decide) (by decide) (hts (.classLink RL 13 iaeN) (by decide +kernel)) (vxN_any hT.2.2.2.2.2.2.2.2.2.2.2.2.2 _ (List.mem_cons_self)) hce hcv hcl ?_
    refine lv_astore_n (lv' := [(3, .ref q9), (0, .ref (h 0)), (1, .int a1), (2, .ref ho)]) hx hb dL_measure_12 rfl hl (by decide) rfl (fun ls hl => ?_)
    refine lv_iconst (v := 1) hx hb dL_measure_13 (by decide) ?_
    exact W.iret (v := 1) hx hb hr (fun t ht hW => ⟨⟨1, (uX, f), rfl, ⟨hIX, Or.inr ⟨hq, rfl, rfl⟩⟩, by rw [ht]; exact hP, va_K.moved hW.alike hK, hD⟩, hS.F ht⟩) hS.2.2 dL_measure_14
  · obtain ⟨hP1, hK1, hD1⟩ := hB
    rw [ht] at hP1
    obtain ⟨hq, hI1⟩ := hw
    obtain ⟨hP, hD⟩ := va_join (wr := [(ho, .inl (cJ, 1, .inr (.inl f)))]) (w1 := wX cI cZ h u1) hP hD [0, 1, 2, 3, 4, 5] [6] rfl rfl (by decide) (by decide) hk1 hFc hP1 hD1
    have hP : va_P D vwCl (wO cI cZ cJ h ho (u1, f)) H1 := hP.sub [1, 2, 3, 4, 5, 6, 0] rfl
    have hD : va_D A (wO cI cZ cJ h ho (u1, f)) := hD.sub [1, 2, 3, 4, 5, 6, 0] (by decide) rfl
    refine lv_i2l (v := r1.toInt64) hx hb dL_measure_7 rfl ?_
    refine va_last hx hb hK hP hD hS 6 2 rfl rfl (vi_c (by decide)) dL_measure_8 (fun H locs hP hD hS => ?_)
    have hP : va_P D vwCl (wO cI cZ cJ h ho (u1, vp_updL f (Int32.toNatClampNeg 0) r1.toInt64)) H := hP
    have hD : va_D A (wO cI cZ cJ h ho (u1, vp_updL f (Int32.toNatClampNeg 0) r1.toInt64)) := hD
    refine lv_goto (tgt := 15) hx hb dL_measure_9 (by decide) ?_
    refine lv_iconst (v := 0) hx hb dL_measure_15 (by decide) ?_
    exact W.iret (v := 0) hx hb hr (fun t ht hW => ⟨⟨0, (u1, vp_updL f (Int32.toNatClampNeg 0) r1.toInt64), rfl, ⟨hI1, Or.inl ⟨r1, hq.symm, rfl, rfl⟩⟩, by rw [ht]; exact hP, va_K.moved hW.alike hK, hD⟩, hS.F ht⟩) hS.2.2 dL_measure_16
