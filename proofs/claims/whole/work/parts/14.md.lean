def pX1_settle_27 (u : MS) (j1 j2 : Int32) : Int32 × MS := (j1, u)
def pX1_settle (u : MS) : Int32 × MS := loopM 20 u 0
set_option maxHeartbeats 4000000 in
set_option maxRecDepth 100000 in
theorem kX1_settle (l : Launch) (D : va_G) (cI cZ : ClassId) (h : Nat → Nat) (sz : Nat) (u : MS) (n : Nat) (hI : InvM n u) (hn : n ≤ 1999500) : Mi l yX1_settle wsX1_settle { frames := 4, cells := 0, slots := 0, locals := 88 } D (tyl cI cZ) (wM cI cZ h) sz u [.ref (h 0)] (fun r u9 => (r, u9) = pX1_settle u ∧ InvM (n + 40) u9) := by
  refine Met.ofW (cc := cX1_settle) (maxL := 3) (ret := (some .int)) (by decide) rfl ?_
  intro p e s m args below meth c s₁ B hml hv
  obtain ⟨rfl, hsz, hP, hK, hD0⟩ := hv
  have hx := B.exec
  have hb := B.bytes
  have hr := B.returns
  have hts := atoms_spec (ws := wsX1_settle) B.pre
  have hin : ∀ w ∈ wsX10, w ∈ wsX1_settle := fun w h9 => List.mem_cons_of_mem _ (List.mem_append_right _ h9)
  have hown : s.vm.findClass RX1 = some m.cls := findClass_of_methodNamed B.named
  have hlocks := B.notSynchronized
  subst hsz
  have hD : va_D (va_A (wM cI cZ h u) s.heap.size) (wM cI cZ h u) := hD0.self (sz := s.heap.size)
  have hA : ∀ q : Nat, s.heap.size ≤ q → va_A (wM cI cZ h u) s.heap.size q := fun q h9 => Or.inr h9
  have hS : va_S (va_A (wM cI cZ h u) s.heap.size) s.heap s.heap [] := va_S.rf
  have hl := lv_entry ([.ref (h 0)]) (n := 3) (Nat.le_of_ble_eq_true rfl)
  rw [lg_entry_eq]
  generalize (lg_sl ([.ref (h 0)]) ++ List.replicate (3 - (lg_sl ([.ref (h 0)])).length) Slot.unset).toArray = ls at hl ⊢
  have hl : lv_has ls 3 [(0, .ref (h 0))] := hl
  generalize va_A (wM cI cZ h u) s.heap.size = A at hD hA hS ⊢
  have J27 : ∀ (v27 : MS) (j1 j2 : Int32) (G27 : Heap) (locs : List Loc) (ls : Array Slot), lv_has ls 3 [(0, .ref (h 0)), (1, .int j1), (2, .int j2)] → va_P D vwCl (wM cI cZ h v27) G27 → va_D A (wM cI cZ h v27) → va_S A s.heap G27 locs → va_K D vwCl (tyl cI cZ) s → InvM (n + 40) v27 → pX1_settle u = pX1_settle_27 v27  j1 j2 → W p l e (headSpec wsX1_settle { frames := 4, cells := 0, slots := 0, locals := 88 }).room s m ([.ref (h 0)] : List Value).toArray below meth c G27 locs 0 0 (MQ below (va_Qi (fun r u9 => (r, u9) = pX1_settle u ∧ InvM (n + 40) u9) (BW D (tyl cI cZ) A (wM cI cZ h)) A) ([.ref (h 0)] : List Value).toArray s 0 0 A) (F0 m 27 ls []) := by
    intro v27 j1 j2 G27 locs ls hl hP hD hS hK hIv27  hq
    refine lv_iload_n hx hb dX1_settle_27 rfl (lv_at hl 1 rfl) ?_
    have hq1 : pX1_settle u = (j1, v27) := (by rw [hq]; rfl)
    exact W.iret (v := j1) hx hb hr (fun t ht hW => ⟨⟨j1, v27, rfl, ⟨hq1.symm, hIv27⟩, by rw [ht]; exact hP, va_K.moved hW.alike hK, hD⟩, hS.F ht⟩) hS.2.2 dX1_settle_28
  have J7 : ∀ (k : Nat) (v7 : MS) (j1 j2 : Int32) (G7 : Heap) (locs : List Loc) (ls : Array Slot), lv_has ls 3 [(0, .ref (h 0)), (1, .int j1), (2, .int j2)] → va_P D vwCl (wM cI cZ h v7) G7 → va_D A (wM cI cZ h v7) → va_S A s.heap G7 locs → va_K D vwCl (tyl cI cZ) s → InvM (n + 2 * (20 - k)) v7 → k ≤ 20 → doneM k v7 → j2 = pX1_rule v7 → pX1_settle u = loopM k v7 j1 → W p l e (headSpec wsX1_settle { frames := 4, cells := 0, slots := 0, locals := 88 }).room s m ([.ref (h 0)] : List Value).toArray below meth c G7 locs 0 0 (MQ below (va_Qi (fun r u9 => (r, u9) = pX1_settle u ∧ InvM (n + 40) u9) (BW D (tyl cI cZ) A (wM cI cZ h)) A) ([.ref (h 0)] : List Value).toArray s 0 0 A) (F0 m 7 ls []) := by
    intro k
    induction k with
    | zero =>
      intro v7 j1 j2 G7 locs ls hl hP hD hS hK hIv7 hk hd hj hq
      refine lv_iload_n hx hb dX1_settle_7 rfl (lv_at hl 2 rfl) ?_
      refine lv_if_le (tgt := 27) hx hb dX1_settle_8 (by decide) (fun _ => ?_) (fun c9 => absurd (by rw [hj]; exact hd) c9)
      exact J27 v7 j1 j2 G7 _ _ (lv_sub hl [0, 1, 2] rfl) hP hD hS hK (hIv7.mono (by omega))  (by subst hj; rw [hq]; rfl)
    | succ k ih =>
      intro v7 j1 j2 G7 locs ls hl hP hD hS hK hIv7 hk hd hj hq
      refine lv_iload_n hx hb dX1_settle_7 rfl (lv_at hl 2 rfl) ?_
      refine lv_if_le (tgt := 27) hx hb dX1_settle_8 (by decide) (fun c1 => ?_) (fun c1 => ?_)
      · exact J27 v7 j1 j2 G7 _ _ (lv_sub hl [0, 1, 2] rfl) hP hD hS hK (hIv7.mono (by omega))  (by subst hj; rw [hq]; rw [loopM_s]; first | (rw [if_pos c1]; done) | (rw [if_pos c1]; rfl))
      · refine lv_aload_n hx hb dX1_settle_11 rfl (lv_at hl 0 rfl) ?_
        refine lv_iload_n hx hb dX1_settle_12 rfl (lv_at hl 2 rfl) ?_
        have hFc := va_free (wc := wM cI cZ h v7) hD hS hA [0, 1, 2] rfl
        refine va_callv (va_runV (As := [.int j2]) (rest := []) ⟨hx, hb, hml, hown, hts⟩ (kX1_comes l D cI cZ h G7.size v7 j2 (n + 2 * (20 - (k + 1))) hIv7 (by omega)) (cwV 1 hts gX1_settle_X1_comes rfl rfl rfl (by decide +kernel) ⟨Nat.le_of_ble_eq_true rfl, Nat.le_of_ble_eq_true rfl⟩) ⟨bl_W, va_recv hK hP (ci := 1) (q0 := 0) rfl rfl, pr_W hP hK hD⟩ rfl rfl hl.1 rfl (lv_room (Nat.le_of_ble_eq_true rfl)) dX1_settle_13 ⟨Nat.zero_le _, Nat.zero_le _⟩) hS (fun q _ h9 => hFc q h9) hFc (fun u4 t H3 locs ht hvm hw hB hz1 hk1 hS => ?_)
        obtain ⟨hP, hK, hD⟩ := af_W hB ht hvm hFc
        clear hFc hB
        obtain ⟨eu4, hIu4⟩ := hw
        refine lv_iinc (v := (j1 + 1)) (lv' := [(1, .int (j1 + 1)), (0, .ref (h 0)), (2, .int j2)]) hx hb dX1_settle_16 hl (k := 1) rfl (by rfl) (by decide) rfl (fun ls hl => ?_)
        refine lv_aload_n hx hb dX1_settle_19 rfl (lv_at hl 1 rfl) ?_
        have hFc := va_free (wc := wM cI cZ h u4) hD hS hA [0, 1, 2] rfl
        refine va_calli (va_runV (As := []) (rest := []) ⟨hx, hb, hml, hown, hts⟩ (kX1_rule l D cI cZ h H3.size u4  ((n + 2 * (20 - (k + 1))) + 2) hIu4 (by omega)) (cwV 0 hts gX1_settle_X1_rule rfl rfl rfl (by decide +kernel) ⟨Nat.le_of_ble_eq_true rfl, Nat.le_of_ble_eq_true rfl⟩) ⟨bl_W, va_recv hK hP (ci := 1) (q0 := 0) rfl rfl, pr_W hP hK hD⟩ rfl rfl hl.1 rfl (lv_room (Nat.le_of_ble_eq_true rfl)) dX1_settle_20 ⟨Nat.zero_le _, Nat.zero_le _⟩) hS (fun q _ h9 => hFc q h9) hFc (fun r5 u7 t H6 locs ht hvm hw hB hz1 hk1 hS => ?_)
        obtain ⟨hP, hK, hD⟩ := af_W hB ht hvm hFc
        clear hFc hB
        obtain ⟨er5, eu7⟩ := hw
        rw [eu7] at hP hD
        refine lv_istore_n (lv' := [(2, .int r5), (1, .int (j1 + 1)), (0, .ref (h 0))]) hx hb dX1_settle_23 rfl hl (by decide) rfl (fun ls hl => ?_)
        refine lv_goto (tgt := 7) hx hb dX1_settle_24 (by decide) ?_
        exact ih u4 (j1 + 1) r5 H6 _ _ (lv_sub hl [2, 1, 0] rfl) hP hD hS hK (hIu4.mono (by omega))  (by omega) (by subst er5; subst eu4; subst hj; exact hd c1) er5 (by subst er5; subst eu4; subst hj; rw [hq]; rw [loopM_s]; first | (rw [if_neg c1]; done) | (rw [if_neg c1]; rfl))
  refine lv_iconst (v := 0) hx hb dX1_settle_0 (by decide) ?_
  refine lv_istore_n (lv' := [(1, .int 0), (0, .ref (h 0))]) hx hb dX1_settle_1 rfl hl (by decide) rfl (fun ls hl => ?_)
  refine lv_aload_n hx hb dX1_settle_2 rfl (lv_at hl 1 rfl) ?_
  have hFc := va_free (wc := wM cI cZ h u) hD hS hA [0, 1, 2] rfl
  refine va_calli (va_runV (As := []) (rest := []) ⟨hx, hb, hml, hown, hts⟩ (kX1_rule l D cI cZ h s.heap.size u  n hI (by omega)) (cwV 0 hts gX1_settle_X1_rule rfl rfl rfl (by decide +kernel) ⟨Nat.le_of_ble_eq_true rfl, Nat.le_of_ble_eq_true rfl⟩) ⟨bl_W, va_recv hK hP (ci := 1) (q0 := 0) rfl rfl, pr_W hP hK hD⟩ rfl rfl hl.1 rfl (lv_room (Nat.le_of_ble_eq_true rfl)) dX1_settle_3 ⟨Nat.zero_le _, Nat.zero_le _⟩) hS (fun q _ h9 => hFc q h9) hFc (fun r8 u10 t H9 locs ht hvm hw hB hz1 hk1 hS => ?_)
  obtain ⟨hP, hK, hD⟩ := af_W hB ht hvm hFc
  clear hFc hB
  obtain ⟨er8, eu10⟩ := hw
  rw [eu10] at hP hD
  refine lv_istore_n (lv' := [(2, .int r8), (1, .int 0), (0, .ref (h 0))]) hx hb dX1_settle_6 rfl hl (by decide) rfl (fun ls hl => ?_)
  exact J7 20 u 0 r8 H9 _ _ (lv_sub hl [2, 1, 0] rfl) hP hD hS hK (hI.mono (by omega))  (Nat.le_refl _) (done20 u) er8 (by subst er8; rfl)
