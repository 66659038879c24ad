def loopX : Nat → XS → Int32 → Int32 × XS
  | 0, u, c => (c, u)
  | k + 1, u, c => if (pX0_comesAboutByItself u).1 = 0 then (c, (pX0_comesAboutByItself u).2) else loopX k (pX0_comesAboutByItself u).2 (c + 1)
theorem loopX_s (k : Nat) (u : XS) (c : Int32) : loopX (k + 1) u c = if (pX0_comesAboutByItself u).1 = 0 then (c, (pX0_comesAboutByItself u).2) else loopX k (pX0_comesAboutByItself u).2 (c + 1) := rfl
def pX0_settle_22 (u : XS) (j1 : Int32) : Int32 × XS := (j1, u)
def pX0_settle (u : XS) : Int32 × XS := loopX 1000 u 0
set_option maxHeartbeats 4000000 in
set_option maxRecDepth 100000 in
theorem kX0_settle (l : Launch) (D : va_G) (cI cZ : ClassId) (h : Nat → Nat) (sz : Nat) (u : XS) (hI : InvX u) : Mi l yX0_settle wsX0_settle { frames := 5, cells := 0, slots := 0, locals := 108 } D (tyl cI cZ) (wX cI cZ h) sz u [.ref (h 0)] (fun r u9 => (r, u9) = pX0_settle u ∧ InvX u9) := by
  refine Met.ofW (cc := cX0_settle) (maxL := 2) (ret := (some .int)) (by decide) rfl ?_
  intro p e s m args below meth c s₁ B hml hv
  obtain ⟨rfl, hsz, hP, hK, hD0⟩ := hv
  have hx := B.exec
  have hb := B.bytes
  have hr := B.returns
  have hts := atoms_spec (ws := wsX0_settle) B.pre
  have hin : ∀ w ∈ wsX00, w ∈ wsX0_settle := fun w h9 => List.mem_cons_of_mem _ (List.mem_append_right _ h9)
  have hown : s.vm.findClass RX0 = some m.cls := findClass_of_methodNamed B.named
  have hlocks := B.notSynchronized
  subst hsz
  have hD : va_D (va_A (wX cI cZ h u) s.heap.size) (wX cI cZ h u) := hD0.self (sz := s.heap.size)
  have hA : ∀ q : Nat, s.heap.size ≤ q → va_A (wX cI cZ h u) s.heap.size q := fun q h9 => Or.inr h9
  have hS : va_S (va_A (wX cI cZ h u) s.heap.size) s.heap s.heap [] := va_S.rf
  have hl := lv_entry ([.ref (h 0)]) (n := 2) (Nat.le_of_ble_eq_true rfl)
  rw [lg_entry_eq]
  generalize (lg_sl ([.ref (h 0)]) ++ List.replicate (2 - (lg_sl ([.ref (h 0)])).length) Slot.unset).toArray = ls at hl ⊢
  have hl : lv_has ls 2 [(0, .ref (h 0))] := hl
  generalize va_A (wX cI cZ h u) s.heap.size = A at hD hA hS ⊢
  have J22 : ∀ (v22 : XS) (j1 : Int32) (G22 : Heap) (locs : List Loc) (ls : Array Slot), lv_has ls 2 [(0, .ref (h 0)), (1, .int j1)] → va_P D vwCl (wX cI cZ h v22) G22 → va_D A (wX cI cZ h v22) → va_S A s.heap G22 locs → va_K D vwCl (tyl cI cZ) s → InvX v22 → pX0_settle u = pX0_settle_22 v22  j1 → W p l e (headSpec wsX0_settle { frames := 5, cells := 0, slots := 0, locals := 108 }).room s m ([.ref (h 0)] : List Value).toArray below meth c G22 locs 0 0 (MQ below (va_Qi (fun r u9 => (r, u9) = pX0_settle u ∧ InvX u9) (BW D (tyl cI cZ) A (wX cI cZ h)) A) ([.ref (h 0)] : List Value).toArray s 0 0 A) (F0 m 22 ls []) := by
    intro v22 j1 G22 locs ls hl hP hD hS hK hIv22  hq
    refine lv_iload_n hx hb dX0_settle_22 rfl (lv_at hl 1 rfl) ?_
    have hq1 : pX0_settle u = (j1, v22) := (by rw [hq]; rfl)
    exact W.iret (v := j1) hx hb hr (fun t ht hW => ⟨⟨j1, v22, rfl, ⟨hq1.symm, hIv22⟩, by rw [ht]; exact hP, va_K.moved hW.alike hK, hD⟩, hS.F ht⟩) hS.2.2 dX0_settle_23
  have J2 : ∀ (k : Nat) (v2 : XS) (j1 : Int32) (G2 : Heap) (locs : List Loc) (ls : Array Slot), lv_has ls 2 [(0, .ref (h 0)), (1, .int j1)] → va_P D vwCl (wX cI cZ h v2) G2 → va_D A (wX cI cZ h v2) → va_S A s.heap G2 locs → va_K D vwCl (tyl cI cZ) s → InvX v2 → k ≤ 1000 → j1 = nI (1000 - k) → pX0_settle u = loopX k v2 j1 → W p l e (headSpec wsX0_settle { frames := 5, cells := 0, slots := 0, locals := 108 }).room s m ([.ref (h 0)] : List Value).toArray below meth c G2 locs 0 0 (MQ below (va_Qi (fun r u9 => (r, u9) = pX0_settle u ∧ InvX u9) (BW D (tyl cI cZ) A (wX cI cZ h)) A) ([.ref (h 0)] : List Value).toArray s 0 0 A) (F0 m 2 ls []) := by
    intro k
    induction k with
    | zero =>
      intro v2 j1 G2 locs ls hl hP hD hS hK hIv2 hk hj hq
      refine lv_iload_n hx hb dX0_settle_2 rfl (lv_at hl 1 rfl) ?_
      refine lv_sipush (v := 1000) hx hb dX0_settle_3 (by decide) ?_
      refine lv_icmp_ge (tgt := 22) hx hb dX0_settle_6 (by decide) (fun _ => ?_) (fun c9 => absurd (by rw [hj]; decide) c9)
      exact J22 v2 j1 G2 _ _ (lv_sub hl [0, 1] rfl) hP hD hS hK hIv2  (by rw [hq]; rfl)
    | succ k ih =>
      intro v2 j1 G2 locs ls hl hP hD hS hK hIv2 hk hj hq
      refine lv_iload_n hx hb dX0_settle_2 rfl (lv_at hl 1 rfl) ?_
      refine lv_sipush (v := 1000) hx hb dX0_settle_3 (by decide) ?_
      refine lv_icmp_ge (tgt := 22) hx hb dX0_settle_6 (by decide) (fun c9 => absurd c9 (lx_lt hj hk)) (fun _ => ?_)
      refine lv_aload_n hx hb dX0_settle_9 rfl (lv_at hl 0 rfl) ?_
      have hFc := va_free (wc := wX cI cZ h v2) hD hS hA [0, 1, 2, 3, 4, 5] rfl
      refine va_calli (va_runV (As := []) (rest := []) ⟨hx, hb, hml, hown, hts⟩ (kX0_comesAboutByItself l D cI cZ h G2.size v2  hIv2) (cwV 0 hts gX0_settle_X0_comesAboutByItself rfl rfl rfl (by decide +kernel) ⟨Nat.le_of_ble_eq_true rfl, Nat.le_of_ble_eq_true rfl⟩) ⟨bl_W, va_recv hK hP (ci := 0) (q0 := 0) rfl rfl, pr_W hP hK hD⟩ rfl rfl hl.1 rfl (lv_room (Nat.le_of_ble_eq_true rfl)) dX0_settle_10 ⟨Nat.zero_le _, Nat.zero_le _⟩) hS (fun q _ h9 => hFc q h9) hFc (fun r1 u3 t H2 locs ht hvm hw hB hz1 hk1 hS => ?_)
      obtain ⟨hP, hK, hD⟩ := af_W hB ht hvm hFc
      clear hFc hB
      obtain ⟨e9, hIu3, br1⟩ := hw
      have er1 : r1 = (pX0_comesAboutByItself v2).1 := congrArg Prod.fst e9
      have eu3 : u3 = (pX0_comesAboutByItself v2).2 := congrArg Prod.snd e9
      clear e9
      refine lv_if_eq (tgt := 22) hx hb dX0_settle_13 (by decide) (fun c4 => ?_) (fun c4 => ?_)
      · exact J22 u3 j1 H2 _ _ (lv_sub hl [0, 1] rfl) hP hD hS hK hIu3  (by subst eu3; subst er1; rw [hq]; rw [loopX_s]; first | (rw [if_pos c4]; done) | (rw [if_pos c4]; rfl))
      · refine lv_iinc (v := (j1 + 1)) (lv' := [(1, .int (j1 + 1)), (0, .ref (h 0))]) hx hb dX0_settle_16 hl (k := 1) rfl (by rfl) (by decide) rfl (fun ls hl => ?_)
        refine lv_goto (tgt := 2) hx hb dX0_settle_19 (by decide) ?_
        exact ih u3 (j1 + 1) H2 _ _ (lv_sub hl [1, 0] rfl) hP hD hS hK hIu3  (by omega) (lx_step hj hk) (by subst eu3; subst er1; rw [hq]; rw [loopX_s]; first | (rw [if_neg c4]; done) | (rw [if_neg c4]; rfl))
  refine lv_iconst (v := 0) hx hb dX0_settle_0 (by decide) ?_
  refine lv_istore_n (lv' := [(1, .int 0), (0, .ref (h 0))]) hx hb dX0_settle_1 rfl hl (by decide) rfl (fun ls hl => ?_)
  exact J2 1000 u 0 s.heap _ _ (lv_sub hl [1, 0] rfl) hP hD hS hK hI  (Nat.le_refl _) (by decide) (by rfl)
