theorem ra_i {D : va_G} {tys : List (ClassId × FieldType)} {s : State} {c c' : ClassId} (hK : va_K D vwCl tys s) (i j : Nat) (hi : tys[i]? = some (c, .int)) (hj : tys[j]? = some (c', .int)) : c' = c := by
  have h1 : s.vm.findClass ("[" ++ FieldType.int.toString) = some c := (hK.2 i _ hi).2
  have h2 : s.vm.findClass ("[" ++ FieldType.int.toString) = some c' := (hK.2 j _ hj).2
  exact Option.some.inj (h2.symm.trans h1)
def iX : XS := (fun _ => 0, fun _ => 0, fun _ => 0, upd (upd (fun _ => 0) (Int32.toNatClampNeg 0) (vp_nar .boolean 1)) (Int32.toNatClampNeg 1) (vp_nar .boolean 1), 0, 0, 0, 0, 0, 0, fun _ => 0, 0)
def iM : MS := (0, 0, 0, 0, 0, 0, 0, 0, 0, 0, fun _ => 0, 0, 0, 0, fun _ => 0)
abbrev oX (h0 : Nat) : va_W := [(h0, .inr (0, [.null, .null, .null, .null, .int 0, .int 0, .int 0, .int 0, .int 0, .int 0, .null, .int 0]))]
abbrev oM (h0 : Nat) : va_W := [(h0, .inr (1, [.int 0, .int 0, .int 0, .int 0, .int 0, .int 0, .int 0, .int 0, .int 0, .int 0, .null, .int 0, .int 0, .int 0, .null]))]
set_option maxHeartbeats 4000000 in
set_option maxRecDepth 100000 in
theorem kX0_init (l : Launch) (D : va_G) (h0 sz : Nat) : Met l yX0_init wsX0_init { frames := 1, cells := 5, slots := 313, locals := 12 } (va_Pc [.ref h0] (PcW D [] (oX h0) sz)) (va_Qv (fun u => u = iX) (fun u t => ∃ (cI cZ : ClassId) (h : Nat → Nat), h 0 = h0 ∧ BW D (tyl cI cZ) (va_A (oX h0) sz) (wX cI cZ h) u t) (va_A (oX h0) sz)) 5 313 (va_A (oX h0) sz) := by
  refine Met.ofW (cc := cX0_init) (maxL := 1) (ret := none) (by decide) rfl ?_
  intro p e s m args below meth c s₁ B hml hv
  obtain ⟨rfl, hsz, hP, hK, hD0⟩ := hv
  have hx := B.exec
  have hb := B.bytes
  have hr := B.returns
  have hts := atoms_spec (ws := wsX0_init) B.pre
  have hin : ∀ w ∈ wsX00, w ∈ wsX0_init := fun w h9 => List.mem_cons_of_mem _ (List.mem_append_right _ h9)
  have hown : s.vm.findClass RX0 = some m.cls := findClass_of_methodNamed B.named
  have hlocks := B.notSynchronized
  have hnm : meth.name = "<init>" := (name_of_methodNamed B.named B.method).1
  subst hsz
  have hD : va_D (va_A (oX h0) s.heap.size) (oX h0) := hD0.self (sz := s.heap.size)
  have hA : ∀ q : Nat, s.heap.size ≤ q → va_A (oX h0) s.heap.size q := fun q h9 => Or.inr h9
  have hS : va_S (va_A (oX h0) s.heap.size) s.heap s.heap [] := va_S.rf
  have hl := lv_entry ([.ref h0]) (n := 1) (Nat.le_of_ble_eq_true rfl)
  rw [lg_entry_eq]
  generalize (lg_sl ([.ref h0]) ++ List.replicate (1 - (lg_sl ([.ref h0])).length) Slot.unset).toArray = ls at hl ⊢
  have hl : lv_has ls 1 [(0, .ref h0)] := hl
  generalize va_A (oX h0) s.heap.size = A at hD hA hS ⊢
  refine lv_aload_n hx hb dX0_init_0 rfl (lv_at hl 0 rfl) ?_
  refine W.objInit hx hb hown (hts (.methodLink RX0 1 objectInit) (by decide +kernel)) (hts (.instanceMethod objectInit) (by decide +kernel)) (hts _ (List.mem_cons_of_mem _ (List.mem_append_left _ (List.mem_of_getElem? (i := 2) rfl)))) rfl (by rw [hml]; exact hl.1) rfl dX0_init_1 (Nat.le_of_ble_eq_true rfl) (Nat.le_of_ble_eq_true rfl) ?_
  refine W.eq (g2 := F0 m 4 ls []) rfl ?_
  refine lv_aload_n hx hb dX0_init_4 rfl (lv_at hl 0 rfl) ?_
  refine lv_iconst (v := 2) hx hb dX0_init_5 (by decide) ?_
  have h_1 : 0 + 1 ≤ 5 := by decide
  have h_2 : 0 + 2 ≤ 313 := by decide
  refine va_newa (atype := .int) (n := 2) (ty := .int) (N' := 2) (a0 := (2, .inl (fun _ => 0))) hx hb (hts (.arrayClass .int) (by decide +kernel)) rfl hK hP hD hS hA (fun _ => rfl) (by decide) (by decide) (by decide) h_1 h_2 dX0_init_6 (fun q4 c4 H hK hP hD hS => ?_)
  refine W.widen (k := 1) (n := 2) (Nat.le_of_ble_eq_true rfl) (Nat.le_of_ble_eq_true rfl) ?_
  have hK : va_K D vwCl [(c4, .int)] s := hK
  have hP : va_P D vwCl [(h0, .inr (0, [.null, .null, .null, .null, .int 0, .int 0, .int 0, .int 0, .int 0, .int 0, .null, .int 0])), (q4, .inl (c4, 2, .inl (fun _ => 0)))] H := hP
  have hD : va_D A [(h0, .inr (0, [.null, .null, .null, .null, .int 0, .int 0, .int 0, .int 0, .int 0, .int 0, .null, .int 0])), (q4, .inl (c4, 2, .inl (fun _ => 0)))] := hD
  refine va_putF (D := D) (ci := 0) (v := .ref q4) (ty := .array .int) (C := RX0) (T := TX0) (N := 12) hx hb hts hin tyX0 tyX0_ok nmX0 hown hK hP hD hS 0 rfl rfl 0 (by decide) (hts (.fieldLink RX0 7 "ModeDesk" "active" "[I") (by decide +kernel)) (fun _ h9 => h9) rfl hnm rfl (by decide +kernel) rfl rfl (Nat.le_of_ble_eq_true rfl) dX0_init_8 (fun H locs hP hD hS => ?_)
  have hP : va_P D vwCl [(h0, .inr (0, [.ref q4, .null, .null, .null, .int 0, .int 0, .int 0, .int 0, .int 0, .int 0, .null, .int 0])), (q4, .inl (c4, 2, .inl (fun _ => 0)))] H := hP
  have hD : va_D A [(h0, .inr (0, [.ref q4, .null, .null, .null, .int 0, .int 0, .int 0, .int 0, .int 0, .int 0, .null, .int 0])), (q4, .inl (c4, 2, .inl (fun _ => 0)))] := hD
  refine lv_aload_n hx hb dX0_init_11 rfl (lv_at hl 0 rfl) ?_
  refine lv_iconst (v := 2) hx hb dX0_init_12 (by decide) ?_
  have h_1 : 1 + 1 ≤ 5 := by decide
  have h_2 : 2 + 2 ≤ 313 := by decide
  refine va_newa (atype := .int) (n := 2) (ty := .int) (N' := 2) (a0 := (2, .inl (fun _ => 0))) hx hb (hts (.arrayClass .int) (by decide +kernel)) rfl hK hP hD hS hA (fun _ => rfl) (by decide) (by decide) (by decide) h_1 h_2 dX0_init_13 (fun q11 c11 H hK hP hD hS => ?_)
  refine W.widen (k := 2) (n := 4) (Nat.le_of_ble_eq_true rfl) (Nat.le_of_ble_eq_true rfl) ?_
  cases ra_i hK 0 1 rfl rfl
  have hK : va_K D vwCl [(c4, .int)] s := hK.sub [0] rfl
  have hP : va_P D vwCl [(h0, .inr (0, [.ref q4, .null, .null, .null, .int 0, .int 0, .int 0, .int 0, .int 0, .int 0, .null, .int 0])), (q4, .inl (c4, 2, .inl (fun _ => 0))), (q11, .inl (c4, 2, .inl (fun _ => 0)))] H := hP
  have hD : va_D A [(h0, .inr (0, [.ref q4, .null, .null, .null, .int 0, .int 0, .int 0, .int 0, .int 0, .int 0, .null, .int 0])), (q4, .inl (c4, 2, .inl (fun _ => 0))), (q11, .inl (c4, 2, .inl (fun _ => 0)))] := hD
  refine va_putF (D := D) (ci := 0) (v := .ref q11) (ty := .array .int) (C := RX0) (T := TX0) (N := 12) hx hb hts hin tyX0 tyX0_ok nmX0 hown hK hP hD hS 0 rfl rfl 1 (by decide) (hts (.fieldLink RX0 13 "ModeDesk" "flashing" "[I") (by decide +kernel)) (fun _ h9 => h9) rfl hnm rfl (by decide +kernel) rfl rfl (Nat.le_of_ble_eq_true rfl) dX0_init_15 (fun H locs hP hD hS => ?_)
  have hP : va_P D vwCl [(h0, .inr (0, [.ref q4, .ref q11, .null, .null, .int 0, .int 0, .int 0, .int 0, .int 0, .int 0, .null, .int 0])), (q4, .inl (c4, 2, .inl (fun _ => 0))), (q11, .inl (c4, 2, .inl (fun _ => 0)))] H := hP
  have hD : va_D A [(h0, .inr (0, [.ref q4, .ref q11, .null, .null, .int 0, .int 0, .int 0, .int 0, .int 0, .int 0, .null, .int 0])), (q4, .inl (c4, 2, .inl (fun _ => 0))), (q11, .inl (c4, 2, .inl (fun _ => 0)))] := hD
  refine lv_aload_n hx hb dX0_init_18 rfl (lv_at hl 0 rfl) ?_
  refine lv_bipush (v := 7) hx hb dX0_init_19 (by decide) ?_
  have h_1 : 2 + 1 ≤ 5 := by decide
  have h_2 : 4 + 7 ≤ 313 := by decide
  refine va_newa (atype := .int) (n := 7) (ty := .int) (N' := 7) (a0 := (7, .inl (fun _ => 0))) hx hb (hts (.arrayClass .int) (by decide +kernel)) rfl hK hP hD hS hA (fun _ => rfl) (by decide) (by decide) (by decide) h_1 h_2 dX0_init_21 (fun q18 c18 H hK hP hD hS => ?_)
  refine W.widen (k := 3) (n := 11) (Nat.le_of_ble_eq_true rfl) (Nat.le_of_ble_eq_true rfl) ?_
  cases ra_i hK 0 1 rfl rfl
  have hK : va_K D vwCl [(c4, .int)] s := hK.sub [0] rfl
  have hP : va_P D vwCl [(h0, .inr (0, [.ref q4, .ref q11, .null, .null, .int 0, .int 0, .int 0, .int 0, .int 0, .int 0, .null, .int 0])), (q4, .inl (c4, 2, .inl (fun _ => 0))), (q11, .inl (c4, 2, .inl (fun _ => 0))), (q18, .inl (c4, 7, .inl (fun _ => 0)))] H := hP
  have hD : va_D A [(h0, .inr (0, [.ref q4, .ref q11, .null, .null, .int 0, .int 0, .int 0, .int 0, .int 0, .int 0, .null, .int 0])), (q4, .inl (c4, 2, .inl (fun _ => 0))), (q11, .inl (c4, 2, .inl (fun _ => 0))), (q18, .inl (c4, 7, .inl (fun _ => 0)))] := hD
  refine va_putF (D := D) (ci := 0) (v := .ref q18) (ty := .array .int) (C := RX0) (T := TX0) (N := 12) hx hb hts hin tyX0 tyX0_ok nmX0 hown hK hP hD hS 0 rfl rfl 2 (by decide) (hts (.fieldLink RX0 16 "ModeDesk" "measures" "[I") (by decide +kernel)) (fun _ h9 => h9) rfl hnm rfl (by decide +kernel) rfl rfl (Nat.le_of_ble_eq_true rfl) dX0_init_23 (fun H locs hP hD hS => ?_)
  have hP : va_P D vwCl [(h0, .inr (0, [.ref q4, .ref q11, .ref q18, .null, .int 0, .int 0, .int 0, .int 0, .int 0, .int 0, .null, .int 0])), (q4, .inl (c4, 2, .inl (fun _ => 0))), (q11, .inl (c4, 2, .inl (fun _ => 0))), (q18, .inl (c4, 7, .inl (fun _ => 0)))] H := hP
  have hD : va_D A [(h0, .inr (0, [.ref q4, .ref q11, .ref q18, .null, .int 0, .int 0, .int 0, .int 0, .int 0, .int 0, .null, .int 0])), (q4, .inl (c4, 2, .inl (fun _ => 0))), (q11, .inl (c4, 2, .inl (fun _ => 0))), (q18, .inl (c4, 7, .inl (fun _ => 0)))] := hD
  refine lv_aload_n hx hb dX0_init_26 rfl (lv_at hl 0 rfl) ?_
  refine lv_iconst (v := 2) hx hb dX0_init_27 (by decide) ?_
  have h_1 : 3 + 1 ≤ 5 := by decide
  have h_2 : 11 + 2 ≤ 313 := by decide
  refine va_newa (atype := .boolean) (n := 2) (ty := .boolean) (N' := 2) (a0 := (2, .inl (fun _ => 0))) hx hb (hts (.arrayClass .boolean) (by decide +kernel)) rfl hK hP hD hS hA (fun _ => rfl) (by decide) (by decide) (by decide) h_1 h_2 dX0_init_28 (fun q26 c26 H hK hP hD hS => ?_)
  refine W.widen (k := 4) (n := 13) (Nat.le_of_ble_eq_true rfl) (Nat.le_of_ble_eq_true rfl) ?_
  have hK : va_K D vwCl [(c4, .int), (c26, .boolean)] s := hK
  have hP : va_P D vwCl [(h0, .inr (0, [.ref q4, .ref q11, .ref q18, .null, .int 0, .int 0, .int 0, .int 0, .int 0, .int 0, .null, .int 0])), (q4, .inl (c4, 2, .inl (fun _ => 0))), (q11, .inl (c4, 2, .inl (fun _ => 0))), (q18, .inl (c4, 7, .inl (fun _ => 0))), (q26, .inl (c26, 2, .inl (fun _ => 0)))] H := hP
  have hD : va_D A [(h0, .inr (0, [.ref q4, .ref q11, .ref q18, .null, .int 0, .int 0, .int 0, .int 0, .int 0, .int 0, .null, .int 0])), (q4, .inl (c4, 2, .inl (fun _ => 0))), (q11, .inl (c4, 2, .inl (fun _ => 0))), (q18, .inl (c4, 7, .inl (fun _ => 0))), (q26, .inl (c26, 2, .inl (fun _ => 0)))] := hD
  refine va_putF (D := D) (ci := 0) (v := .ref q26) (ty := .array .boolean) (C := RX0) (T := TX0) (N := 12) hx hb hts hin tyX0 tyX0_ok nmX0 hown hK hP hD hS 0 rfl rfl 3 (by decide) (hts (.fieldLink RX0 19 "ModeDesk" "soundness" "[Z") (by decide +kernel)) (fun _ h9 => h9) rfl hnm rfl (by decide +kernel) rfl rfl (Nat.le_of_ble_eq_true rfl) dX0_init_30 (fun H locs hP hD hS => ?_)
  have hP : va_P D vwCl [(h0, .inr (0, [.ref q4, .ref q11, .ref q18, .ref q26, .int 0, .int 0, .int 0, .int 0, .int 0, .int 0, .null, .int 0])), (q4, .inl (c4, 2, .inl (fun _ => 0))), (q11, .inl (c4, 2, .inl (fun _ => 0))), (q18, .inl (c4, 7, .inl (fun _ => 0))), (q26, .inl (c26, 2, .inl (fun _ => 0)))] H := hP
  have hD : va_D A [(h0, .inr (0, [.ref q4, .ref q11, .ref q18, .ref q26, .int 0, .int 0, .int 0, .int 0, .int 0, .int 0, .null, .int 0])), (q4, .inl (c4, 2, .inl (fun _ => 0))), (q11, .inl (c4, 2, .inl (fun _ => 0))), (q18, .inl (c4, 7, .inl (fun _ => 0))), (q26, .inl (c26, 2, .inl (fun _ => 0)))] := hD
  refine lv_aload_n hx hb dX0_init_33 rfl (lv_at hl 0 rfl) ?_
  refine lv_sipush (v := 300) hx hb dX0_init_34 (by decide) ?_
  have h_1 : 4 + 1 ≤ 5 := by decide
  have h_2 : 13 + 300 ≤ 313 := by decide
  refine va_newa (atype := .int) (n := 300) (ty := .int) (N' := 300) (a0 := (300, .inl (fun _ => 0))) hx hb (hts (.arrayClass .int) (by decide +kernel)) rfl hK hP hD hS hA (fun _ => rfl) (by decide) (by decide) (by decide) h_1 h_2 dX0_init_37 (fun q33 c33 H hK hP hD hS => ?_)
  refine W.widen (k := 5) (n := 313) (Nat.le_of_ble_eq_true rfl) (Nat.le_of_ble_eq_true rfl) ?_
  cases ra_i hK 0 2 rfl rfl
  have hK : va_K D vwCl [(c4, .int), (c26, .boolean)] s := hK.sub [0, 1] rfl
  have hP : va_P D vwCl [(h0, .inr (0, [.ref q4, .ref q11, .ref q18, .ref q26, .int 0, .int 0, .int 0, .int 0, .int 0, .int 0, .null, .int 0])), (q4, .inl (c4, 2, .inl (fun _ => 0))), (q11, .inl (c4, 2, .inl (fun _ => 0))), (q18, .inl (c4, 7, .inl (fun _ => 0))), (q26, .inl (c26, 2, .inl (fun _ => 0))), (q33, .inl (c4, 300, .inl (fun _ => 0)))] H := hP
  have hD : va_D A [(h0, .inr (0, [.ref q4, .ref q11, .ref q18, .ref q26, .int 0, .int 0, .int 0, .int 0, .int 0, .int 0, .null, .int 0])), (q4, .inl (c4, 2, .inl (fun _ => 0))), (q11, .inl (c4, 2, .inl (fun _ => 0))), (q18, .inl (c4, 7, .inl (fun _ => 0))), (q26, .inl (c26, 2, .inl (fun _ => 0))), (q33, .inl (c4, 300, .inl (fun _ => 0)))] := hD
  refine va_putF (D := D) (ci := 0) (v := .ref q33) (ty := .array .int) (C := RX0) (T := TX0) (N := 12) hx hb hts hin tyX0 tyX0_ok nmX0 hown hK hP hD hS 0 rfl rfl 10 (by decide) (hts (.fieldLink RX0 23 "ModeDesk" "changes" "[I") (by decide +kernel)) (fun _ h9 => h9) rfl hnm rfl (by decide +kernel) rfl rfl (Nat.le_of_ble_eq_true rfl) dX0_init_39 (fun H locs hP hD hS => ?_)
  have hP : va_P D vwCl [(h0, .inr (0, [.ref q4, .ref q11, .ref q18, .ref q26, .int 0, .int 0, .int 0, .int 0, .int 0, .int 0, .ref q33, .int 0])), (q4, .inl (c4, 2, .inl (fun _ => 0))), (q11, .inl (c4, 2, .inl (fun _ => 0))), (q18, .inl (c4, 7, .inl (fun _ => 0))), (q26, .inl (c26, 2, .inl (fun _ => 0))), (q33, .inl (c4, 300, .inl (fun _ => 0)))] H := hP
  have hD : va_D A [(h0, .inr (0, [.ref q4, .ref q11, .ref q18, .ref q26, .int 0, .int 0, .int 0, .int 0, .int 0, .int 0, .ref q33, .int 0])), (q4, .inl (c4, 2, .inl (fun _ => 0))), (q11, .inl (c4, 2, .inl (fun _ => 0))), (q18, .inl (c4, 7, .inl (fun _ => 0))), (q26, .inl (c26, 2, .inl (fun _ => 0))), (q33, .inl (c4, 300, .inl (fun _ => 0)))] := hD
  refine lv_aload_n hx hb dX0_init_42 rfl (lv_at hl 0 rfl) ?_
  refine va_get (D := D) (ci := 0) (v := .ref q26) (C := RX0) (T := TX0) (N := 12) hx hb hts hin hown hK hP 0 rfl rfl 3 (by decide) (hts (.fieldLink RX0 19 "ModeDesk" "soundness" "[Z") (by decide +kernel)) (fun _ h9 => h9) rfl dX0_init_43 ?_
  refine lv_iconst (v := 0) hx hb dX0_init_46 (by decide) ?_
  refine lv_iconst (v := 1) hx hb dX0_init_47 (by decide) ?_
  refine va_zast hx hb hK hP hD hS 4 1 rfl rfl (vi_c (by decide)) dX0_init_48 (fun H locs hP hD hS => ?_)
  have hP : va_P D vwCl [(h0, .inr (0, [.ref q4, .ref q11, .ref q18, .ref q26, .int 0, .int 0, .int 0, .int 0, .int 0, .int 0, .ref q33, .int 0])), (q4, .inl (c4, 2, .inl (fun _ => 0))), (q11, .inl (c4, 2, .inl (fun _ => 0))), (q18, .inl (c4, 7, .inl (fun _ => 0))), (q26, .inl (c26, 2, .inl (upd (fun _ => 0) (Int32.toNatClampNeg 0) (vp_nar .boolean 1)))), (q33, .inl (c4, 300, .inl (fun _ => 0)))] H := hP
  have hD : va_D A [(h0, .inr (0, [.ref q4, .ref q11, .ref q18, .ref q26, .int 0, .int 0, .int 0, .int 0, .int 0, .int 0, .ref q33, .int 0])), (q4, .inl (c4, 2, .inl (fun _ => 0))), (q11, .inl (c4, 2, .inl (fun _ => 0))), (q18, .inl (c4, 7, .inl (fun _ => 0))), (q26, .inl (c26, 2, .inl (upd (fun _ => 0) (Int32.toNatClampNeg 0) (vp_nar .boolean 1)))), (q33, .inl (c4, 300, .inl (fun _ => 0)))] := hD
  refine lv_aload_n hx hb dX0_init_49 rfl (lv_at hl 0 rfl) ?_
  refine va_get (D := D) (ci := 0) (v := .ref q26) (C := RX0) (T := TX0) (N := 12) hx hb hts hin hown hK hP 0 rfl rfl 3 (by decide) (hts (.fieldLink RX0 19 "ModeDesk" "soundness" "[Z") (by decide +kernel)) (fun _ h9 => h9) rfl dX0_init_50 ?_
  refine lv_iconst (v := 1) hx hb dX0_init_53 (by decide) ?_
  refine lv_iconst (v := 1) hx hb dX0_init_54 (by decide) ?_
  refine va_zast hx hb hK hP hD hS 4 1 rfl rfl (vi_c (by decide)) dX0_init_55 (fun H locs hP hD hS => ?_)
  have hP : va_P D vwCl [(h0, .inr (0, [.ref q4, .ref q11, .ref q18, .ref q26, .int 0, .int 0, .int 0, .int 0, .int 0, .int 0, .ref q33, .int 0])), (q4, .inl (c4, 2, .inl (fun _ => 0))), (q11, .inl (c4, 2, .inl (fun _ => 0))), (q18, .inl (c4, 7, .inl (fun _ => 0))), (q26, .inl (c26, 2, .inl (upd (upd (fun _ => 0) (Int32.toNatClampNeg 0) (vp_nar .boolean 1)) (Int32.toNatClampNeg 1) (vp_nar .boolean 1)))), (q33, .inl (c4, 300, .inl (fun _ => 0)))] H := hP
  have hD : va_D A [(h0, .inr (0, [.ref q4, .ref q11, .ref q18, .ref q26, .int 0, .int 0, .int 0, .int 0, .int 0, .int 0, .ref q33, .int 0])), (q4, .inl (c4, 2, .inl (fun _ => 0))), (q11, .inl (c4, 2, .inl (fun _ => 0))), (q18, .inl (c4, 7, .inl (fun _ => 0))), (q26, .inl (c26, 2, .inl (upd (upd (fun _ => 0) (Int32.toNatClampNeg 0) (vp_nar .boolean 1)) (Int32.toNatClampNeg 1) (vp_nar .boolean 1)))), (q33, .inl (c4, 300, .inl (fun _ => 0)))] := hD
  exact W.vret hx hb hr (fun t ht hW => ⟨⟨iX, rfl, rfl, c4, c26, (fun k => [h0, q4, q11, q18, q26, q33].getD k 0), rfl, by rw [ht]; exact hP, va_K.moved hW.alike hK, hD⟩, hS.F ht⟩) hS.2.2 dX0_init_56
set_option maxHeartbeats 4000000 in
set_option maxRecDepth 100000 in
theorem kX1_init (l : Launch) (D : va_G) (h0 sz : Nat) : Met l yX1_init wsX1_init { frames := 1, cells := 2, slots := 1207, locals := 12 } (va_Pc [.ref h0] (PcW D [] (oM h0) sz)) (va_Qv (fun u => u = iM) (fun u t => ∃ (cI cZ : ClassId) (h : Nat → Nat), h 0 = h0 ∧ BW D [(cI, .int)] (va_A (oM h0) sz) (wM cI cZ h) u t) (va_A (oM h0) sz)) 2 1207 (va_A (oM h0) sz) := by
  refine Met.ofW (cc := cX1_init) (maxL := 1) (ret := none) (by decide) rfl ?_
  intro p e s m args below meth c s₁ B hml hv
  obtain ⟨rfl, hsz, hP, hK, hD0⟩ := hv
  have hx := B.exec
  have hb := B.bytes
  have hr := B.returns
  have hts := atoms_spec (ws := wsX1_init) B.pre
  have hin : ∀ w ∈ wsX10, w ∈ wsX1_init := fun w h9 => List.mem_cons_of_mem _ (List.mem_append_right _ h9)
  have hown : s.vm.findClass RX1 = some m.cls := findClass_of_methodNamed B.named
  have hlocks := B.notSynchronized
  have hnm : meth.name = "<init>" := (name_of_methodNamed B.named B.method).1
  subst hsz
  have hD : va_D (va_A (oM h0) s.heap.size) (oM h0) := hD0.self (sz := s.heap.size)
  have hA : ∀ q : Nat, s.heap.size ≤ q → va_A (oM h0) s.heap.size q := fun q h9 => Or.inr h9
  have hS : va_S (va_A (oM h0) s.heap.size) s.heap s.heap [] := va_S.rf
  have hl := lv_entry ([.ref h0]) (n := 1) (Nat.le_of_ble_eq_true rfl)
  rw [lg_entry_eq]
  generalize (lg_sl ([.ref h0]) ++ List.replicate (1 - (lg_sl ([.ref h0])).length) Slot.unset).toArray = ls at hl ⊢
  have hl : lv_has ls 1 [(0, .ref h0)] := hl
  generalize va_A (oM h0) s.heap.size = A at hD hA hS ⊢
  refine lv_aload_n hx hb dX1_init_0 rfl (lv_at hl 0 rfl) ?_
  refine W.objInit hx hb hown (hts (.methodLink RX1 1 objectInit) (by decide +kernel)) (hts (.instanceMethod objectInit) (by decide +kernel)) (hts _ (List.mem_cons_of_mem _ (List.mem_append_left _ (List.mem_of_getElem? (i := 2) rfl)))) rfl (by rw [hml]; exact hl.1) rfl dX1_init_1 (Nat.le_of_ble_eq_true rfl) (Nat.le_of_ble_eq_true rfl) ?_
  refine W.eq (g2 := F0 m 4 ls []) rfl ?_
  refine lv_aload_n hx hb dX1_init_4 rfl (lv_at hl 0 rfl) ?_
  refine lv_bipush (v := 7) hx hb dX1_init_5 (by decide) ?_
  have h_1 : 0 + 1 ≤ 2 := by decide
  have h_2 : 0 + 7 ≤ 1207 := by decide
  refine va_newa (atype := .int) (n := 7) (ty := .int) (N' := 7) (a0 := (7, .inl (fun _ => 0))) hx hb (hts (.arrayClass .int) (by decide +kernel)) rfl hK hP hD hS hA (fun _ => rfl) (by decide) (by decide) (by decide) h_1 h_2 dX1_init_7 (fun q4 c4 H hK hP hD hS => ?_)
  refine W.widen (k := 1) (n := 7) (Nat.le_of_ble_eq_true rfl) (Nat.le_of_ble_eq_true rfl) ?_
  have hK : va_K D vwCl [(c4, .int)] s := hK
  have hP : va_P D vwCl [(h0, .inr (1, [.int 0, .int 0, .int 0, .int 0, .int 0, .int 0, .int 0, .int 0, .int 0, .int 0, .null, .int 0, .int 0, .int 0, .null])), (q4, .inl (c4, 7, .inl (fun _ => 0)))] H := hP
  have hD : va_D A [(h0, .inr (1, [.int 0, .int 0, .int 0, .int 0, .int 0, .int 0, .int 0, .int 0, .int 0, .int 0, .null, .int 0, .int 0, .int 0, .null])), (q4, .inl (c4, 7, .inl (fun _ => 0)))] := hD
  refine va_putF (D := D) (ci := 1) (v := .ref q4) (ty := .array .int) (C := RX1) (T := TX1) (N := 15) hx hb hts hin tyX1 tyX1_ok nmX1 hown hK hP hD hS 0 rfl rfl 10 (by decide) (hts (.fieldLink RX1 7 "ModeDeskModel" "values" "[I") (by decide +kernel)) (fun _ h9 => h9) rfl hnm rfl (by decide +kernel) rfl rfl (Nat.le_of_ble_eq_true rfl) dX1_init_9 (fun H locs hP hD hS => ?_)
  have hP : va_P D vwCl [(h0, .inr (1, [.int 0, .int 0, .int 0, .int 0, .int 0, .int 0, .int 0, .int 0, .int 0, .int 0, .ref q4, .int 0, .int 0, .int 0, .null])), (q4, .inl (c4, 7, .inl (fun _ => 0)))] H := hP
  have hD : va_D A [(h0, .inr (1, [.int 0, .int 0, .int 0, .int 0, .int 0, .int 0, .int 0, .int 0, .int 0, .int 0, .ref q4, .int 0, .int 0, .int 0, .null])), (q4, .inl (c4, 7, .inl (fun _ => 0)))] := hD
  refine lv_aload_n hx hb dX1_init_12 rfl (lv_at hl 0 rfl) ?_
  refine lv_sipush (v := 1200) hx hb dX1_init_13 (by decide) ?_
  have h_1 : 1 + 1 ≤ 2 := by decide
  have h_2 : 7 + 1200 ≤ 1207 := by decide
  refine va_newa (atype := .int) (n := 1200) (ty := .int) (N' := 1200) (a0 := (1200, .inl (fun _ => 0))) hx hb (hts (.arrayClass .int) (by decide +kernel)) rfl hK hP hD hS hA (fun _ => rfl) (by decide) (by decide) (by decide) h_1 h_2 dX1_init_16 (fun q12 c12 H hK hP hD hS => ?_)
  refine W.widen (k := 2) (n := 1207) (Nat.le_of_ble_eq_true rfl) (Nat.le_of_ble_eq_true rfl) ?_
  cases ra_i hK 0 1 rfl rfl
  have hK : va_K D vwCl [(c4, .int)] s := hK.sub [0] rfl
  have hP : va_P D vwCl [(h0, .inr (1, [.int 0, .int 0, .int 0, .int 0, .int 0, .int 0, .int 0, .int 0, .int 0, .int 0, .ref q4, .int 0, .int 0, .int 0, .null])), (q4, .inl (c4, 7, .inl (fun _ => 0))), (q12, .inl (c4, 1200, .inl (fun _ => 0)))] H := hP
  have hD : va_D A [(h0, .inr (1, [.int 0, .int 0, .int 0, .int 0, .int 0, .int 0, .int 0, .int 0, .int 0, .int 0, .ref q4, .int 0, .int 0, .int 0, .null])), (q4, .inl (c4, 7, .inl (fun _ => 0))), (q12, .inl (c4, 1200, .inl (fun _ => 0)))] := hD
  refine va_putF (D := D) (ci := 1) (v := .ref q12) (ty := .array .int) (C := RX1) (T := TX1) (N := 15) hx hb hts hin tyX1 tyX1_ok nmX1 hown hK hP hD hS 0 rfl rfl 14 (by decide) (hts (.fieldLink RX1 13 "ModeDeskModel" "rows" "[I") (by decide +kernel)) (fun _ h9 => h9) rfl hnm rfl (by decide +kernel) rfl rfl (Nat.le_of_ble_eq_true rfl) dX1_init_18 (fun H locs hP hD hS => ?_)
  have hP : va_P D vwCl [(h0, .inr (1, [.int 0, .int 0, .int 0, .int 0, .int 0, .int 0, .int 0, .int 0, .int 0, .int 0, .ref q4, .int 0, .int 0, .int 0, .ref q12])), (q4, .inl (c4, 7, .inl (fun _ => 0))), (q12, .inl (c4, 1200, .inl (fun _ => 0)))] H := hP
  have hD : va_D A [(h0, .inr (1, [.int 0, .int 0, .int 0, .int 0, .int 0, .int 0, .int 0, .int 0, .int 0, .int 0, .ref q4, .int 0, .int 0, .int 0, .ref q12])), (q4, .inl (c4, 7, .inl (fun _ => 0))), (q12, .inl (c4, 1200, .inl (fun _ => 0)))] := hD
  refine lv_aload_n hx hb dX1_init_21 rfl (lv_at hl 0 rfl) ?_
  refine lv_iconst (v := 0) hx hb dX1_init_22 (by decide) ?_
  refine va_put (D := D) (ci := 1) (v := .int 0) (ty := .int) (C := RX1) (T := TX1) (N := 15) hx hb hts hin tyX1 tyX1_ok nmX1 hown hK hP hD hS 0 rfl rfl 9 (by decide) (hts (.fieldLink RX1 16 "ModeDeskModel" "leader" "I") (by decide +kernel)) (fun _ h9 => h9) rfl (by decide +kernel) rfl rfl (Nat.le_of_ble_eq_true rfl) dX1_init_23 (fun H locs hP hD hS => ?_)
  have hP : va_P D vwCl [(h0, .inr (1, [.int 0, .int 0, .int 0, .int 0, .int 0, .int 0, .int 0, .int 0, .int 0, .int 0, .ref q4, .int 0, .int 0, .int 0, .ref q12])), (q4, .inl (c4, 7, .inl (fun _ => 0))), (q12, .inl (c4, 1200, .inl (fun _ => 0)))] H := hP
  have hD : va_D A [(h0, .inr (1, [.int 0, .int 0, .int 0, .int 0, .int 0, .int 0, .int 0, .int 0, .int 0, .int 0, .ref q4, .int 0, .int 0, .int 0, .ref q12])), (q4, .inl (c4, 7, .inl (fun _ => 0))), (q12, .inl (c4, 1200, .inl (fun _ => 0)))] := hD
  exact W.vret hx hb hr (fun t ht hW => ⟨⟨iM, rfl, rfl, c4, c4, (fun k => [h0, q4, q12].getD k 0), rfl, by rw [ht]; exact hP, va_K.moved hW.alike hK, hD⟩, hS.F ht⟩) hS.2.2 dX1_init_26
