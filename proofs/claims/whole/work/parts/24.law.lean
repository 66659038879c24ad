abbrev wL (cI cZ cJ : ClassId) (hX hM : Nat → Nat) (ho : Nat) (u : XS) (v : MS) (f : Nat → Int64) : va_W := wX cI cZ hX u ++ (wM cI cZ hM v ++ [(ho, .inl (cJ, 1, .inr (.inl f)))])
theorem lc_in {L k : Nat} (hL : L ≤ 1536) (hk : 3 * k ≤ L) (c : ¬ Int32.ofNat L - 3 < nI (3 * k)) : 3 * k + 3 ≤ L := by
  rcases Nat.lt_or_ge L (3 * k + 3) with q | q
  · refine absurd ?_ c
    have h1 : (nI L - nI 3).toInt = (L : Int) - 3 := pk_sub_toInt (by omega) (by decide)
    have h2 : (nI (3 * k)).toInt = ((3 * k : Nat) : Int) := nI_toInt (by omega)
    show nI L - nI 3 < nI (3 * k)
    rw [Int32.lt_iff_toInt_lt, h1, h2]
    omega
  · exact q
theorem lc_v0 {L k : Nat} (hL : L ≤ 1536) (h : 3 * k + 3 ≤ L) {x : Int32} (e : x = nI (3 * k)) : vp_in x L := by rw [e]; exact vp_in_nI (by omega) (by omega)
theorem lc_v1 {L k : Nat} (hL : L ≤ 1536) (h : 3 * k + 3 ≤ L) {x : Int32} (e : x = nI (3 * k)) : vp_in (x + 1) L := by rw [e, nI_1]; exact vp_in_nI (by omega) (by omega)
theorem lc_v2 {L k : Nat} (hL : L ≤ 1536) (h : 3 * k + 3 ≤ L) {x : Int32} (e : x = nI (3 * k)) : vp_in (x + 2) L := by
  rw [e]
  have h1 : nI (3 * k) + 2 = nI (3 * k + 2) := nI_add (3 * k) 2
  rw [h1]; exact vp_in_nI (by omega) (by omega)
theorem lc_nx {k : Nat} {x : Int32} (e : x = nI (3 * k)) : x + 3 = nI (3 * (k + 1)) := by
  rw [e]; exact nI_add (3 * k) 3
theorem lc_cmp (x : Int64) : lg_cmp x x = 0 := by simp [lg_cmp]
set_option maxHeartbeats 4000000 in
set_option maxRecDepth 100000 in
theorem law_loop {p : Program} {l : Launch} {e : Env} {s : State} {m : MethodId} {below : List Frame} {meth : Method} {c : Code} (hlt : l.stackTraces = false) {D : va_G} {b L : Nat} {xs : Nat → Int32} (hL : L ≤ 1536) (C0 : lw_At p s m meth c b L xs) {cI cZ cJ : ClassId} {hX hM : Nat → Nat} {ho : Nat} {sa : Nat → Nat} {tL tH : Nat} (hT : TW (fun q : Nat => s.heap.size ≤ q) sa tL tH s) (hK0 : va_K D vwCl (tyl3 cI cZ cJ) s) :
    ∀ (n k : Nat) (x4 : Int32), 3 * k ≤ L → L < 3 * (k + n) → x4 = nI (3 * k) → ∀ (u : XS) (v : MS) (f : Nat → Int64), RR u v → InvX u → InvM (100 * k) v → ∀ (H : Heap) (locs : List Loc), va_P D vwCl (wL cI cZ cJ hX hM ho u v f) H → va_D (fun q : Nat => s.heap.size ≤ q) (wL cI cZ cJ hX hM ho u v f) → va_S (fun q : Nat => s.heap.size ≤ q) s.heap H locs → ∀ (ls : Array Slot), lv_has ls 7 [(0, .ref b), (1, .ref (hX 0)), (2, .ref (hM 0)), (3, .ref ho), (4, .int x4)] → W p l e room_1 s m #[Value.ref b] below meth c H locs (10 + k) (1548 + 6 * k) (lw_Z below #[Value.ref b] s) (F0 m 23 ls []) := by
  obtain ⟨hx, hb, hr, hml, hown, hts, hX0, hbl, hlocks, hgv⟩ := C0
  have hts : ∀ w ∈ wsL_law, w.before #[Value.ref b] s = true := fun w h9 => hts w (wsL_law_in w h9)
  have hown : s.vm.findClass RL = some m.cls := hown
  have hA : ∀ q : Nat, s.heap.size ≤ q → (fun q : Nat => s.heap.size ≤ q) q := fun _ h9 => h9
  have hbA : ¬ (fun q : Nat => s.heap.size ≤ q) b := Nat.not_le.mpr hbl
  intro n
  induction n with
  | zero =>
    intro k x4 h1 h2
    exact absurd h2 (by omega)
  | succ n ih =>
    intro k x4 hk hn ex4 u v f hR hIX hIM H locs hP hD hS ls hl
    have hk5 : k ≤ 512 := by omega
    have hK := hK0
    refine lv_iload hx hb dL_law_23 (lv_at hl 4 rfl) ?_
    refine lv_aload_n hx hb dL_law_25 rfl (lv_at hl 0 rfl) ?_
    refine va_slen hx hb hX0 hbl hbA hS dL_law_26 ?_
    refine lv_iconst (v := 3) hx hb dL_law_27 (by decide) ?_
    refine lv_isub hx hb dL_law_28 ?_
    refine lv_icmp_gt (tgt := 617) hx hb dL_law_29 (by decide) (fun c0 => ?_) (fun c0 => ?_)
    · refine lv_iconst (v := 1) hx hb dL_law_617 (by decide) ?_
      refine va_forget (fun q hq => hS.2.2 q hq) ?_
      refine W.widen (k := 1042) (n := 9788) (by omega) (by omega) ?_
      exact lw_ret hx hb hr hlocks dL_law_618
    · have hk3 : 3 * k + 3 ≤ L := lc_in hL hk (by rw [ex4] at c0; exact c0)
      have NX : ∀ (u1 : XS) (v1 : MS) (f1 : Nat → Int64) (H : Heap) (locs : List Loc) (ls : Array Slot), RR u1 v1 → InvX u1 → InvM (100 * (k + 1)) v1 → va_P D vwCl (wL cI cZ cJ hX hM ho u1 v1 f1) H → va_D (fun q : Nat => s.heap.size ≤ q) (wL cI cZ cJ hX hM ho u1 v1 f1) → va_S (fun q : Nat => s.heap.size ≤ q) s.heap H locs → lv_has ls 7 [(0, .ref b), (1, .ref (hX 0)), (2, .ref (hM 0)), (3, .ref ho), (4, .int x4)] → W p l e room_1 s m #[Value.ref b] below meth c H locs (10 + (k + 1)) (1548 + 6 * (k + 1)) (lw_Z below #[Value.ref b] s) (F0 m 611 ls []) := by
        intro u1 v1 f1 H locs ls hR hIX hIM hP hD hS hl
        refine lv_iinc (v := x4 + 3) (lv' := [(4, .int (x4 + 3)), (0, .ref b), (1, .ref (hX 0)), (2, .ref (hM 0)), (3, .ref ho)]) hx hb dL_law_611 hl (k := 4) rfl rfl (by decide) rfl (fun ls hl => ?_)
        refine lv_goto (tgt := 23) hx hb dL_law_614 (by decide) ?_
        exact ih (k + 1) (x4 + 3) (by omega) (by omega) (lc_nx ex4) u1 v1 f1 hR hIX hIM H locs hP hD hS ls (lv_sub hl [1, 2, 3, 4, 0] rfl)
      have hv0 := lc_v0 hL hk3 ex4
      have hv1 := lc_v1 hL hk3 ex4
      have hv2 := lc_v2 hL hk3 ex4
      refine lv_aload_n hx hb dL_law_32 rfl (lv_at hl 0 rfl) ?_
      refine lv_iload hx hb dL_law_33 (lv_at hl 4 rfl) ?_
      refine va_sld hx hb hX0 hbl hbA hS hv0 dL_law_35 ?_
      refine lv_bipush (v := 15) hx hb dL_law_36 (by decide) ?_
      refine lv_iand hx hb dL_law_38 ?_
      refine lv_topi (fun sw esw => ?_)
      by_cases cs0 : sw = 0
      · refine lv_tableIn (off := 57) (tgt := 96) hx hb dL_law_39 (by rw [cs0]; decide) (by rw [cs0]; decide) (by rw [cs0]; rfl) (by decide) ?_
        refine lv_aload_n hx hb dL_law_96 rfl (lv_at hl 1 rfl) ?_
        refine lv_aload_n hx hb dL_law_97 rfl (lv_at hl 0 rfl) ?_
        refine lv_iload hx hb dL_law_98 (lv_at hl 4 rfl) ?_
        refine lv_iconst (v := 1) hx hb dL_law_100 (by decide) ?_
        refine lv_iadd hx hb dL_law_101 ?_
        refine va_sld hx hb hX0 hbl hbA hS hv1 dL_law_102 ?_
        refine lv_aload_n hx hb dL_law_103 rfl (lv_at hl 3 rfl) ?_
        have hPc := hP.sub (ws' := wO cI cZ cJ hX ho (u, f)) [0, 1, 2, 3, 4, 5, 9] rfl
        have hDc := hD.sub (ws' := wO cI cZ cJ hX ho (u, f)) [0, 1, 2, 3, 4, 5, 9] (by decide) rfl
        have hFc := va_free (wc := wO cI cZ cJ hX ho (u, f)) hD hS hA [0, 1, 2, 3, 4, 5, 9] rfl
        refine va_calli (vx_runSW (As := [.ref (hX 0), .int (xs (Int32.toNatClampNeg (x4 + 1))), .ref ho]) (rest := []) ⟨hx, hb, hml, hown, hts⟩ (kL_press l hlt D cI cZ cJ hX ho sa tL tH H.size u f (xs (Int32.toNatClampNeg (x4 + 1))) hIX) (vx_cwSW 3 hts gL_law_L_press rfl rfl rfl (by decide +kernel) ⟨Nat.le_of_ble_eq_true rfl, Nat.le_of_ble_eq_true rfl⟩) ⟨bl_T, pr_T hPc hK hDc hT hS hFc⟩ rfl rfl hl.1 rfl (lv_room (Nat.le_of_ble_eq_true rfl)) dL_law_104 ⟨(by show 10 + k + 1 ≤ 1042; omega), (by show 1548 + 6 * k + 6 ≤ 9788; omega)⟩) hS (fun q _ h9 => hFc q h9) hFc (fun r2 w9 t H1 locs ht hvm hw hB hz1 hk1 hS => ?_)
        obtain ⟨u9, f9⟩ := w9
        obtain ⟨hP1, hK1, hD1⟩ := hB
        rw [ht] at hP1
        obtain ⟨hP, hD⟩ := va_join (wr := wM cI cZ hM v) (w1 := wO cI cZ cJ hX ho (u9, f9)) hP hD [0, 1, 2, 3, 4, 5, 9] [6, 7, 8] rfl rfl (by decide) (by decide) hk1 hFc hP1 hD1
        have hP : va_P D vwCl (wL cI cZ cJ hX hM ho u9 v f9) H1 := hP.sub [3, 4, 5, 6, 7, 8, 0, 1, 2, 9] rfl
        have hD : va_D (fun q : Nat => s.heap.size ≤ q) (wL cI cZ cJ hX hM ho u9 v f9) := hD.sub [3, 4, 5, 6, 7, 8, 0, 1, 2, 9] (by decide) rfl
        refine W.widen (k := 10 + (k + 1)) (n := 1548 + 6 * (k + 1)) (by omega) (by omega) ?_
        clear hPc hDc hFc hP1 hK1 hD1
        obtain ⟨hI9, hw⟩ := hw
        rcases hw with ⟨x9, hq, hr9, hf⟩ | ⟨hq, hr9, hwf⟩
        · have hI9 : InvX u9 := hI9
          have hr9 : r2 = 0 := hr9
          subst hr9
          have hf : f9 = _ := hf
          have hq : pX0_press u (xs (Int32.toNatClampNeg (x4 + 1))) = some (x9, u9) := hq
          have hsim := sim_press hR hIX hIM (by omega) (xs (Int32.toNatClampNeg (x4 + 1)))
          rw [hq] at hsim
          obtain ⟨hs1, hs2, hs3⟩ := hsim
          refine lv_istore (lv' := [(5, .int 0), (0, .ref b), (1, .ref (hX 0)), (2, .ref (hM 0)), (3, .ref ho), (4, .int x4)]) hx hb dL_law_107 hl (by decide) rfl (fun ls hl => ?_)
          refine lv_aload_n hx hb dL_law_109 rfl (lv_at hl 3 rfl) ?_
          refine lv_aload_n hx hb dL_law_110 rfl (lv_at hl 1 rfl) ?_
          refine lv_iload hx hb dL_law_111 (lv_at hl 5 rfl) ?_
          refine lv_iconst (v := 1) hx hb dL_law_113 (by decide) ?_
          refine lv_iadd hx hb dL_law_114 ?_
          refine va_sld hx hb hX0 hbl hbA hS hv1 dL_law_115 ?_
          have hPc := hP.sub (ws' := wM cI cZ hM v) [6, 7, 8] rfl
          have hDc := hD.sub (ws' := wM cI cZ hM v) [6, 7, 8] (by decide) rfl
          have hKc := hK.sub (tys' := tyl cI cZ) [0, 1] rfl
          have hFc := va_free (wc := wM cI cZ hM v) hD hS hA [6, 7, 8] rfl
          refine va_calli (va_runV (As := [.int (xs (Int32.toNatClampNeg (x4 + 1)))]) (rest := []) ⟨hx, hb, hml, hown, hts⟩ (kX1_press l D cI cZ hM H1.size v (xs (Int32.toNatClampNeg (x4 + 1))) (100 * k) hIM (by omega)) (cwV 1 hts gL_law_X1_press rfl rfl rfl (by decide +kernel) ⟨Nat.le_of_ble_eq_true rfl, Nat.le_of_ble_eq_true rfl⟩) ⟨bl_W, va_recv hKc hPc (ci := 1) (q0 := 0) rfl rfl, pr_W hPc hKc hDc⟩ rfl rfl hl.1 rfl (lv_room (Nat.le_of_ble_eq_true rfl)) dL_law_116 ⟨(by show 10 + (k + 1) + 0 ≤ 1042; omega), (by show 1548 + 6 * (k + 1) + 0 ≤ 9788; omega)⟩) hS (fun q _ h9 => hFc q h9) hFc (fun r4 w5 t H3 locs ht hvm hw hB hz1 hk1 hS => ?_)
          obtain ⟨hP1, hK1, hD1⟩ := hB
          rw [ht] at hP1
          obtain ⟨hP, hD⟩ := va_join (wr := (wX cI cZ hX u9 ++ [(ho, .inl (cJ, 1, .inr (.inl f9)))])) (w1 := wM cI cZ hM w5) hP hD [6, 7, 8] [0, 1, 2, 3, 4, 5, 9] rfl rfl (by decide) (by decide) hk1 hFc hP1 hD1
          have hP : va_P D vwCl (wL cI cZ cJ hX hM ho u9 w5 f9) H3 := hP.sub [0, 1, 2, 3, 4, 5, 7, 8, 9, 6] rfl
          have hD : va_D (fun q : Nat => s.heap.size ≤ q) (wL cI cZ cJ hX hM ho u9 w5 f9) := hD.sub [0, 1, 2, 3, 4, 5, 7, 8, 9, 6] (by decide) rfl
          refine W.widen (k := 10 + (k + 1)) (n := 1548 + 6 * (k + 1)) (by omega) (by omega) ?_
          clear hPc hDc hKc hFc hP1 hK1 hD1
          obtain ⟨er4, hIw5⟩ := hw
          have eb : r4 = (pX1_press v (xs (Int32.toNatClampNeg (x4 + 1)))).1 := congrArg Prod.fst er4
          have ev : w5 = (pX1_press v (xs (Int32.toNatClampNeg (x4 + 1)))).2 := congrArg Prod.snd er4
          have hIw5 : InvM (100 * (k + 1)) w5 := hIw5.mono (by omega)
          refine lv_istore (lv' := [(6, .int r4), (5, .int 0), (0, .ref b), (1, .ref (hX 0)), (2, .ref (hM 0)), (3, .ref ho), (4, .int x4)]) hx hb dL_law_119 hl (by decide) rfl (fun ls hl => ?_)
          refine lv_aload_n hx hb dL_law_121 rfl (lv_at hl 4 rfl) ?_
          have hPc := hP.sub (ws' := wM cI cZ hM w5) [6, 7, 8] rfl
          have hDc := hD.sub (ws' := wM cI cZ hM w5) [6, 7, 8] (by decide) rfl
          have hKc := hK.sub (tys' := tyl cI cZ) [0, 1] rfl
          have hFc := va_free (wc := wM cI cZ hM w5) hD hS hA [6, 7, 8] rfl
          refine va_calli (va_runV (As := []) (rest := []) ⟨hx, hb, hml, hown, hts⟩ (kX1_thrown l D cI cZ hM H3.size w5  (100 * (k + 1)) hIw5 (by omega)) (cwV 0 hts gL_law_X1_thrown rfl rfl rfl (by decide +kernel) ⟨Nat.le_of_ble_eq_true rfl, Nat.le_of_ble_eq_true rfl⟩) ⟨bl_W, va_recv hKc hPc (ci := 1) (q0 := 0) rfl rfl, pr_W hPc hKc hDc⟩ rfl rfl hl.1 rfl (lv_room (Nat.le_of_ble_eq_true rfl)) dL_law_122 ⟨(by show 10 + (k + 1) + 0 ≤ 1042; omega), (by show 1548 + 6 * (k + 1) + 0 ≤ 9788; omega)⟩) hS (fun q _ h9 => hFc q h9) hFc (fun r7 w8 t H6 locs ht hvm hw hB hz1 hk1 hS => ?_)
          obtain ⟨hP1, hK1, hD1⟩ := hB
          rw [ht] at hP1
          obtain ⟨hP, hD⟩ := va_join (wr := (wX cI cZ hX u9 ++ [(ho, .inl (cJ, 1, .inr (.inl f9)))])) (w1 := wM cI cZ hM w8) hP hD [6, 7, 8] [0, 1, 2, 3, 4, 5, 9] rfl rfl (by decide) (by decide) hk1 hFc hP1 hD1
          have hP : va_P D vwCl (wL cI cZ cJ hX hM ho u9 w8 f9) H6 := hP.sub [0, 1, 2, 3, 4, 5, 7, 8, 9, 6] rfl
          have hD : va_D (fun q : Nat => s.heap.size ≤ q) (wL cI cZ cJ hX hM ho u9 w8 f9) := hD.sub [0, 1, 2, 3, 4, 5, 7, 8, 9, 6] (by decide) rfl
          refine W.widen (k := 10 + (k + 1)) (n := 1548 + 6 * (k + 1)) (by omega) (by omega) ?_
          clear hPc hDc hKc hFc hP1 hK1 hD1
          obtain ⟨er7, ew8⟩ := hw
          rw [ew8] at hP hD
          refine lv_iload hx hb dL_law_125 (lv_at hl 1 rfl) ?_
          refine lv_icmp_eq (tgt := 132) hx hb dL_law_127 (by decide) (fun _ => ?_) (fun c9 => absurd (by rw [er7]; show mt w5 = _; rw [ev]; exact hs1) c9)
          refine lv_iload hx hb dL_law_132 (lv_at hl 1 rfl) ?_
          refine lv_if_ne (tgt := 149) hx hb dL_law_134 (by decide) (fun c9 => absurd rfl c9) (fun _ => ?_)
          refine lv_aload_n hx hb dL_law_137 rfl (lv_at hl 5 rfl) ?_
          refine lv_iconst (v := 0) hx hb dL_law_138 (by decide) ?_
          refine va_lald hx hb hK hP 9 2 rfl rfl (vi_c (by decide)) dL_law_139 ?_
          refine lv_iload hx hb dL_law_140 (lv_at hl 0 rfl) ?_
          refine lv_i2l (v := (Int32.toInt64 r4)) hx hb dL_law_142 rfl ?_
          refine W.lcmp hx hb dL_law_143 ?_
          rw [show (f9 (Int32.toNatClampNeg 0)) = (Int32.toInt64 r4) from (by rw [hf, eb, hs2]; rfl), lc_cmp]
          refine lv_if_eq (tgt := 149) hx hb dL_law_144 (by decide) (fun _ => ?_) (fun c9 => absurd rfl c9)
          refine lv_goto (tgt := 611) hx hb dL_law_149 (by decide) ?_
          exact NX u9 w5 f9 H6 _ _ (by rw [ev]; exact hs3) hI9 hIw5 hP hD hS (lv_sub hl [2, 3, 4, 5, 6] rfl)
        · have hI9 : InvX u9 := hI9
          have hr9 : r2 = 1 := hr9
          subst hr9
          have hwf : (u9, f9) = (u, f) := hwf
          obtain ⟨e8, e9⟩ := Prod.mk.inj hwf
          rw [e8] at hP hD hI9
          rw [e9] at hP hD
          clear e8 e9 hwf
          have hsim := sim_press hR hIX hIM (by omega) (xs (Int32.toNatClampNeg (x4 + 1)))
          rw [hq] at hsim
          obtain ⟨hs1, hs3⟩ := hsim
          refine lv_istore (lv' := [(5, .int 1), (0, .ref b), (1, .ref (hX 0)), (2, .ref (hM 0)), (3, .ref ho), (4, .int x4)]) hx hb dL_law_107 hl (by decide) rfl (fun ls hl => ?_)
          refine lv_aload_n hx hb dL_law_109 rfl (lv_at hl 3 rfl) ?_
          refine lv_aload_n hx hb dL_law_110 rfl (lv_at hl 1 rfl) ?_
          refine lv_iload hx hb dL_law_111 (lv_at hl 5 rfl) ?_
          refine lv_iconst (v := 1) hx hb dL_law_113 (by decide) ?_
          refine lv_iadd hx hb dL_law_114 ?_
          refine va_sld hx hb hX0 hbl hbA hS hv1 dL_law_115 ?_
          have hPc := hP.sub (ws' := wM cI cZ hM v) [6, 7, 8] rfl
          have hDc := hD.sub (ws' := wM cI cZ hM v) [6, 7, 8] (by decide) rfl
          have hKc := hK.sub (tys' := tyl cI cZ) [0, 1] rfl
          have hFc := va_free (wc := wM cI cZ hM v) hD hS hA [6, 7, 8] rfl
          refine va_calli (va_runV (As := [.int (xs (Int32.toNatClampNeg (x4 + 1)))]) (rest := []) ⟨hx, hb, hml, hown, hts⟩ (kX1_press l D cI cZ hM H1.size v (xs (Int32.toNatClampNeg (x4 + 1))) (100 * k) hIM (by omega)) (cwV 1 hts gL_law_X1_press rfl rfl rfl (by decide +kernel) ⟨Nat.le_of_ble_eq_true rfl, Nat.le_of_ble_eq_true rfl⟩) ⟨bl_W, va_recv hKc hPc (ci := 1) (q0 := 0) rfl rfl, pr_W hPc hKc hDc⟩ rfl rfl hl.1 rfl (lv_room (Nat.le_of_ble_eq_true rfl)) dL_law_116 ⟨(by show 10 + (k + 1) + 0 ≤ 1042; omega), (by show 1548 + 6 * (k + 1) + 0 ≤ 9788; omega)⟩) hS (fun q _ h9 => hFc q h9) hFc (fun r10 w11 t H9 locs ht hvm hw hB hz1 hk1 hS => ?_)
          obtain ⟨hP1, hK1, hD1⟩ := hB
          rw [ht] at hP1
          obtain ⟨hP, hD⟩ := va_join (wr := (wX cI cZ hX u ++ [(ho, .inl (cJ, 1, .inr (.inl f)))])) (w1 := wM cI cZ hM w11) hP hD [6, 7, 8] [0, 1, 2, 3, 4, 5, 9] rfl rfl (by decide) (by decide) hk1 hFc hP1 hD1
          have hP : va_P D vwCl (wL cI cZ cJ hX hM ho u w11 f) H9 := hP.sub [0, 1, 2, 3, 4, 5, 7, 8, 9, 6] rfl
          have hD : va_D (fun q : Nat => s.heap.size ≤ q) (wL cI cZ cJ hX hM ho u w11 f) := hD.sub [0, 1, 2, 3, 4, 5, 7, 8, 9, 6] (by decide) rfl
          refine W.widen (k := 10 + (k + 1)) (n := 1548 + 6 * (k + 1)) (by omega) (by omega) ?_
          clear hPc hDc hKc hFc hP1 hK1 hD1
          obtain ⟨er10, hIw11⟩ := hw
          have eb : r10 = (pX1_press v (xs (Int32.toNatClampNeg (x4 + 1)))).1 := congrArg Prod.fst er10
          have ev : w11 = (pX1_press v (xs (Int32.toNatClampNeg (x4 + 1)))).2 := congrArg Prod.snd er10
          have hIw11 : InvM (100 * (k + 1)) w11 := hIw11.mono (by omega)
          refine lv_istore (lv' := [(6, .int r10), (5, .int 1), (0, .ref b), (1, .ref (hX 0)), (2, .ref (hM 0)), (3, .ref ho), (4, .int x4)]) hx hb dL_law_119 hl (by decide) rfl (fun ls hl => ?_)
          refine lv_aload_n hx hb dL_law_121 rfl (lv_at hl 4 rfl) ?_
          have hPc := hP.sub (ws' := wM cI cZ hM w11) [6, 7, 8] rfl
          have hDc := hD.sub (ws' := wM cI cZ hM w11) [6, 7, 8] (by decide) rfl
          have hKc := hK.sub (tys' := tyl cI cZ) [0, 1] rfl
          have hFc := va_free (wc := wM cI cZ hM w11) hD hS hA [6, 7, 8] rfl
          refine va_calli (va_runV (As := []) (rest := []) ⟨hx, hb, hml, hown, hts⟩ (kX1_thrown l D cI cZ hM H9.size w11  (100 * (k + 1)) hIw11 (by omega)) (cwV 0 hts gL_law_X1_thrown rfl rfl rfl (by decide +kernel) ⟨Nat.le_of_ble_eq_true rfl, Nat.le_of_ble_eq_true rfl⟩) ⟨bl_W, va_recv hKc hPc (ci := 1) (q0 := 0) rfl rfl, pr_W hPc hKc hDc⟩ rfl rfl hl.1 rfl (lv_room (Nat.le_of_ble_eq_true rfl)) dL_law_122 ⟨(by show 10 + (k + 1) + 0 ≤ 1042; omega), (by show 1548 + 6 * (k + 1) + 0 ≤ 9788; omega)⟩) hS (fun q _ h9 => hFc q h9) hFc (fun r13 w14 t H12 locs ht hvm hw hB hz1 hk1 hS => ?_)
          obtain ⟨hP1, hK1, hD1⟩ := hB
          rw [ht] at hP1
          obtain ⟨hP, hD⟩ := va_join (wr := (wX cI cZ hX u ++ [(ho, .inl (cJ, 1, .inr (.inl f)))])) (w1 := wM cI cZ hM w14) hP hD [6, 7, 8] [0, 1, 2, 3, 4, 5, 9] rfl rfl (by decide) (by decide) hk1 hFc hP1 hD1
          have hP : va_P D vwCl (wL cI cZ cJ hX hM ho u w14 f) H12 := hP.sub [0, 1, 2, 3, 4, 5, 7, 8, 9, 6] rfl
          have hD : va_D (fun q : Nat => s.heap.size ≤ q) (wL cI cZ cJ hX hM ho u w14 f) := hD.sub [0, 1, 2, 3, 4, 5, 7, 8, 9, 6] (by decide) rfl
          refine W.widen (k := 10 + (k + 1)) (n := 1548 + 6 * (k + 1)) (by omega) (by omega) ?_
          clear hPc hDc hKc hFc hP1 hK1 hD1
          obtain ⟨er13, ew14⟩ := hw
          rw [ew14] at hP hD
          refine lv_iload hx hb dL_law_125 (lv_at hl 1 rfl) ?_
          refine lv_icmp_eq (tgt := 132) hx hb dL_law_127 (by decide) (fun _ => ?_) (fun c9 => absurd (by rw [er13]; show mt w11 = _; rw [ev]; exact hs1) c9)
          refine lv_iload hx hb dL_law_132 (lv_at hl 1 rfl) ?_
          refine lv_if_ne (tgt := 149) hx hb dL_law_134 (by decide) (fun _ => ?_) (fun c9 => absurd c9 (by decide))
          refine lv_goto (tgt := 611) hx hb dL_law_149 (by decide) ?_
          exact NX u w11 f H12 _ _ (by rw [ev]; exact hs3) hI9 hIw11 hP hD hS (lv_sub hl [2, 3, 4, 5, 6] rfl)
      · skip
        by_cases cs1 : sw = 1
        · refine lv_tableIn (off := 113) (tgt := 152) hx hb dL_law_39 (by rw [cs1]; decide) (by rw [cs1]; decide) (by rw [cs1]; rfl) (by decide) ?_
          refine lv_aload_n hx hb dL_law_152 rfl (lv_at hl 1 rfl) ?_
          refine lv_aload_n hx hb dL_law_153 rfl (lv_at hl 0 rfl) ?_
          refine lv_iload hx hb dL_law_154 (lv_at hl 4 rfl) ?_
          refine lv_iconst (v := 1) hx hb dL_law_156 (by decide) ?_
          refine lv_iadd hx hb dL_law_157 ?_
          refine va_sld hx hb hX0 hbl hbA hS hv1 dL_law_158 ?_
          refine lv_aload_n hx hb dL_law_159 rfl (lv_at hl 0 rfl) ?_
          refine lv_iload hx hb dL_law_160 (lv_at hl 4 rfl) ?_
          refine lv_iconst (v := 2) hx hb dL_law_162 (by decide) ?_
          refine lv_iadd hx hb dL_law_163 ?_
          refine va_sld hx hb hX0 hbl hbA hS hv2 dL_law_164 ?_
          refine lv_aload_n hx hb dL_law_165 rfl (lv_at hl 3 rfl) ?_
          have hPc := hP.sub (ws' := wO cI cZ cJ hX ho (u, f)) [0, 1, 2, 3, 4, 5, 9] rfl
          have hDc := hD.sub (ws' := wO cI cZ cJ hX ho (u, f)) [0, 1, 2, 3, 4, 5, 9] (by decide) rfl
          have hFc := va_free (wc := wO cI cZ cJ hX ho (u, f)) hD hS hA [0, 1, 2, 3, 4, 5, 9] rfl
          refine va_calli (vx_runSW (As := [.ref (hX 0), .int (xs (Int32.toNatClampNeg (x4 + 1))), .int (xs (Int32.toNatClampNeg (x4 + 2))), .ref ho]) (rest := []) ⟨hx, hb, hml, hown, hts⟩ (kL_sense l hlt D cI cZ cJ hX ho sa tL tH H.size u f (xs (Int32.toNatClampNeg (x4 + 1))) (xs (Int32.toNatClampNeg (x4 + 2))) hIX) (vx_cwSW 4 hts gL_law_L_sense rfl rfl rfl (by decide +kernel) ⟨Nat.le_of_ble_eq_true rfl, Nat.le_of_ble_eq_true rfl⟩) ⟨bl_T, pr_T hPc hK hDc hT hS hFc⟩ rfl rfl hl.1 rfl (lv_room (Nat.le_of_ble_eq_true rfl)) dL_law_166 ⟨(by show 10 + k + 1 ≤ 1042; omega), (by show 1548 + 6 * k + 6 ≤ 9788; omega)⟩) hS (fun q _ h9 => hFc q h9) hFc (fun r16 w9 t H15 locs ht hvm hw hB hz1 hk1 hS => ?_)
          obtain ⟨u9, f9⟩ := w9
          obtain ⟨hP1, hK1, hD1⟩ := hB
          rw [ht] at hP1
          obtain ⟨hP, hD⟩ := va_join (wr := wM cI cZ hM v) (w1 := wO cI cZ cJ hX ho (u9, f9)) hP hD [0, 1, 2, 3, 4, 5, 9] [6, 7, 8] rfl rfl (by decide) (by decide) hk1 hFc hP1 hD1
          have hP : va_P D vwCl (wL cI cZ cJ hX hM ho u9 v f9) H15 := hP.sub [3, 4, 5, 6, 7, 8, 0, 1, 2, 9] rfl
          have hD : va_D (fun q : Nat => s.heap.size ≤ q) (wL cI cZ cJ hX hM ho u9 v f9) := hD.sub [3, 4, 5, 6, 7, 8, 0, 1, 2, 9] (by decide) rfl
          refine W.widen (k := 10 + (k + 1)) (n := 1548 + 6 * (k + 1)) (by omega) (by omega) ?_
          clear hPc hDc hFc hP1 hK1 hD1
          obtain ⟨hI9, hw⟩ := hw
          rcases hw with ⟨x9, hq, hr9, hf⟩ | ⟨hq, hr9, hwf⟩
          · have hI9 : InvX u9 := hI9
            have hr9 : r16 = 0 := hr9
            subst hr9
            have hf : f9 = _ := hf
            have hq : pX0_sense u (xs (Int32.toNatClampNeg (x4 + 1))) (xs (Int32.toNatClampNeg (x4 + 2))) = some (x9, u9) := hq
            have hsim := sim_sense hR hIX hIM (by omega) (xs (Int32.toNatClampNeg (x4 + 1))) (xs (Int32.toNatClampNeg (x4 + 2)))
            rw [hq] at hsim
            obtain ⟨hs1, hs2, hs3⟩ := hsim
            refine lv_istore (lv' := [(5, .int 0), (0, .ref b), (1, .ref (hX 0)), (2, .ref (hM 0)), (3, .ref ho), (4, .int x4)]) hx hb dL_law_169 hl (by decide) rfl (fun ls hl => ?_)
            refine lv_aload_n hx hb dL_law_171 rfl (lv_at hl 3 rfl) ?_
            refine lv_aload_n hx hb dL_law_172 rfl (lv_at hl 1 rfl) ?_
            refine lv_iload hx hb dL_law_173 (lv_at hl 5 rfl) ?_
            refine lv_iconst (v := 1) hx hb dL_law_175 (by decide) ?_
            refine lv_iadd hx hb dL_law_176 ?_
            refine va_sld hx hb hX0 hbl hbA hS hv1 dL_law_177 ?_
            refine lv_aload_n hx hb dL_law_178 rfl (lv_at hl 1 rfl) ?_
            refine lv_iload hx hb dL_law_179 (lv_at hl 5 rfl) ?_
            refine lv_iconst (v := 2) hx hb dL_law_181 (by decide) ?_
            refine lv_iadd hx hb dL_law_182 ?_
            refine va_sld hx hb hX0 hbl hbA hS hv2 dL_law_183 ?_
            have hPc := hP.sub (ws' := wM cI cZ hM v) [6, 7, 8] rfl
            have hDc := hD.sub (ws' := wM cI cZ hM v) [6, 7, 8] (by decide) rfl
            have hKc := hK.sub (tys' := tyl cI cZ) [0, 1] rfl
            have hFc := va_free (wc := wM cI cZ hM v) hD hS hA [6, 7, 8] rfl
            refine va_calli (va_runV (As := [.int (xs (Int32.toNatClampNeg (x4 + 1))), .int (xs (Int32.toNatClampNeg (x4 + 2)))]) (rest := []) ⟨hx, hb, hml, hown, hts⟩ (kX1_sense l D cI cZ hM H15.size v (xs (Int32.toNatClampNeg (x4 + 1))) (xs (Int32.toNatClampNeg (x4 + 2))) (100 * k) hIM (by omega)) (cwV 2 hts gL_law_X1_sense rfl rfl rfl (by decide +kernel) ⟨Nat.le_of_ble_eq_true rfl, Nat.le_of_ble_eq_true rfl⟩) ⟨bl_W, va_recv hKc hPc (ci := 1) (q0 := 0) rfl rfl, pr_W hPc hKc hDc⟩ rfl rfl hl.1 rfl (lv_room (Nat.le_of_ble_eq_true rfl)) dL_law_184 ⟨(by show 10 + (k + 1) + 0 ≤ 1042; omega), (by show 1548 + 6 * (k + 1) + 0 ≤ 9788; omega)⟩) hS (fun q _ h9 => hFc q h9) hFc (fun r18 w19 t H17 locs ht hvm hw hB hz1 hk1 hS => ?_)
            obtain ⟨hP1, hK1, hD1⟩ := hB
            rw [ht] at hP1
            obtain ⟨hP, hD⟩ := va_join (wr := (wX cI cZ hX u9 ++ [(ho, .inl (cJ, 1, .inr (.inl f9)))])) (w1 := wM cI cZ hM w19) hP hD [6, 7, 8] [0, 1, 2, 3, 4, 5, 9] rfl rfl (by decide) (by decide) hk1 hFc hP1 hD1
            have hP : va_P D vwCl (wL cI cZ cJ hX hM ho u9 w19 f9) H17 := hP.sub [0, 1, 2, 3, 4, 5, 7, 8, 9, 6] rfl
            have hD : va_D (fun q : Nat => s.heap.size ≤ q) (wL cI cZ cJ hX hM ho u9 w19 f9) := hD.sub [0, 1, 2, 3, 4, 5, 7, 8, 9, 6] (by decide) rfl
            refine W.widen (k := 10 + (k + 1)) (n := 1548 + 6 * (k + 1)) (by omega) (by omega) ?_
            clear hPc hDc hKc hFc hP1 hK1 hD1
            obtain ⟨er18, hIw19⟩ := hw
            have eb : r18 = (pX1_sense v (xs (Int32.toNatClampNeg (x4 + 1))) (xs (Int32.toNatClampNeg (x4 + 2)))).1 := congrArg Prod.fst er18
            have ev : w19 = (pX1_sense v (xs (Int32.toNatClampNeg (x4 + 1))) (xs (Int32.toNatClampNeg (x4 + 2)))).2 := congrArg Prod.snd er18
            have hIw19 : InvM (100 * (k + 1)) w19 := hIw19.mono (by omega)
            refine lv_istore (lv' := [(6, .int r18), (5, .int 0), (0, .ref b), (1, .ref (hX 0)), (2, .ref (hM 0)), (3, .ref ho), (4, .int x4)]) hx hb dL_law_187 hl (by decide) rfl (fun ls hl => ?_)
            refine lv_aload_n hx hb dL_law_189 rfl (lv_at hl 4 rfl) ?_
            have hPc := hP.sub (ws' := wM cI cZ hM w19) [6, 7, 8] rfl
            have hDc := hD.sub (ws' := wM cI cZ hM w19) [6, 7, 8] (by decide) rfl
            have hKc := hK.sub (tys' := tyl cI cZ) [0, 1] rfl
            have hFc := va_free (wc := wM cI cZ hM w19) hD hS hA [6, 7, 8] rfl
            refine va_calli (va_runV (As := []) (rest := []) ⟨hx, hb, hml, hown, hts⟩ (kX1_thrown l D cI cZ hM H17.size w19  (100 * (k + 1)) hIw19 (by omega)) (cwV 0 hts gL_law_X1_thrown rfl rfl rfl (by decide +kernel) ⟨Nat.le_of_ble_eq_true rfl, Nat.le_of_ble_eq_true rfl⟩) ⟨bl_W, va_recv hKc hPc (ci := 1) (q0 := 0) rfl rfl, pr_W hPc hKc hDc⟩ rfl rfl hl.1 rfl (lv_room (Nat.le_of_ble_eq_true rfl)) dL_law_190 ⟨(by show 10 + (k + 1) + 0 ≤ 1042; omega), (by show 1548 + 6 * (k + 1) + 0 ≤ 9788; omega)⟩) hS (fun q _ h9 => hFc q h9) hFc (fun r21 w22 t H20 locs ht hvm hw hB hz1 hk1 hS => ?_)
            obtain ⟨hP1, hK1, hD1⟩ := hB
            rw [ht] at hP1
            obtain ⟨hP, hD⟩ := va_join (wr := (wX cI cZ hX u9 ++ [(ho, .inl (cJ, 1, .inr (.inl f9)))])) (w1 := wM cI cZ hM w22) hP hD [6, 7, 8] [0, 1, 2, 3, 4, 5, 9] rfl rfl (by decide) (by decide) hk1 hFc hP1 hD1
            have hP : va_P D vwCl (wL cI cZ cJ hX hM ho u9 w22 f9) H20 := hP.sub [0, 1, 2, 3, 4, 5, 7, 8, 9, 6] rfl
            have hD : va_D (fun q : Nat => s.heap.size ≤ q) (wL cI cZ cJ hX hM ho u9 w22 f9) := hD.sub [0, 1, 2, 3, 4, 5, 7, 8, 9, 6] (by decide) rfl
            refine W.widen (k := 10 + (k + 1)) (n := 1548 + 6 * (k + 1)) (by omega) (by omega) ?_
            clear hPc hDc hKc hFc hP1 hK1 hD1
            obtain ⟨er21, ew22⟩ := hw
            rw [ew22] at hP hD
            refine lv_iload hx hb dL_law_193 (lv_at hl 1 rfl) ?_
            refine lv_icmp_eq (tgt := 200) hx hb dL_law_195 (by decide) (fun _ => ?_) (fun c9 => absurd (by rw [er21]; show mt w19 = _; rw [ev]; exact hs1) c9)
            refine lv_iload hx hb dL_law_200 (lv_at hl 1 rfl) ?_
            refine lv_if_ne (tgt := 217) hx hb dL_law_202 (by decide) (fun c9 => absurd rfl c9) (fun _ => ?_)
            refine lv_aload_n hx hb dL_law_205 rfl (lv_at hl 5 rfl) ?_
            refine lv_iconst (v := 0) hx hb dL_law_206 (by decide) ?_
            refine va_lald hx hb hK hP 9 2 rfl rfl (vi_c (by decide)) dL_law_207 ?_
            refine lv_iload hx hb dL_law_208 (lv_at hl 0 rfl) ?_
            refine lv_i2l (v := (Int32.toInt64 r18)) hx hb dL_law_210 rfl ?_
            refine W.lcmp hx hb dL_law_211 ?_
            rw [show (f9 (Int32.toNatClampNeg 0)) = (Int32.toInt64 r18) from (by rw [hf, eb, hs2]; rfl), lc_cmp]
            refine lv_if_eq (tgt := 217) hx hb dL_law_212 (by decide) (fun _ => ?_) (fun c9 => absurd rfl c9)
            refine lv_goto (tgt := 611) hx hb dL_law_217 (by decide) ?_
            exact NX u9 w19 f9 H20 _ _ (by rw [ev]; exact hs3) hI9 hIw19 hP hD hS (lv_sub hl [2, 3, 4, 5, 6] rfl)
          · have hI9 : InvX u9 := hI9
            have hr9 : r16 = 1 := hr9
            subst hr9
            have hwf : (u9, f9) = (u, f) := hwf
            obtain ⟨e8, e9⟩ := Prod.mk.inj hwf
            rw [e8] at hP hD hI9
            rw [e9] at hP hD
            clear e8 e9 hwf
            have hsim := sim_sense hR hIX hIM (by omega) (xs (Int32.toNatClampNeg (x4 + 1))) (xs (Int32.toNatClampNeg (x4 + 2)))
            rw [hq] at hsim
            obtain ⟨hs1, hs3⟩ := hsim
            refine lv_istore (lv' := [(5, .int 1), (0, .ref b), (1, .ref (hX 0)), (2, .ref (hM 0)), (3, .ref ho), (4, .int x4)]) hx hb dL_law_169 hl (by decide) rfl (fun ls hl => ?_)
            refine lv_aload_n hx hb dL_law_171 rfl (lv_at hl 3 rfl) ?_
            refine lv_aload_n hx hb dL_law_172 rfl (lv_at hl 1 rfl) ?_
            refine lv_iload hx hb dL_law_173 (lv_at hl 5 rfl) ?_
            refine lv_iconst (v := 1) hx hb dL_law_175 (by decide) ?_
            refine lv_iadd hx hb dL_law_176 ?_
            refine va_sld hx hb hX0 hbl hbA hS hv1 dL_law_177 ?_
            refine lv_aload_n hx hb dL_law_178 rfl (lv_at hl 1 rfl) ?_
            refine lv_iload hx hb dL_law_179 (lv_at hl 5 rfl) ?_
            refine lv_iconst (v := 2) hx hb dL_law_181 (by decide) ?_
            refine lv_iadd hx hb dL_law_182 ?_
            refine va_sld hx hb hX0 hbl hbA hS hv2 dL_law_183 ?_
            have hPc := hP.sub (ws' := wM cI cZ hM v) [6, 7, 8] rfl
            have hDc := hD.sub (ws' := wM cI cZ hM v) [6, 7, 8] (by decide) rfl
            have hKc := hK.sub (tys' := tyl cI cZ) [0, 1] rfl
            have hFc := va_free (wc := wM cI cZ hM v) hD hS hA [6, 7, 8] rfl
            refine va_calli (va_runV (As := [.int (xs (Int32.toNatClampNeg (x4 + 1))), .int (xs (Int32.toNatClampNeg (x4 + 2)))]) (rest := []) ⟨hx, hb, hml, hown, hts⟩ (kX1_sense l D cI cZ hM H15.size v (xs (Int32.toNatClampNeg (x4 + 1))) (xs (Int32.toNatClampNeg (x4 + 2))) (100 * k) hIM (by omega)) (cwV 2 hts gL_law_X1_sense rfl rfl rfl (by decide +kernel) ⟨Nat.le_of_ble_eq_true rfl, Nat.le_of_ble_eq_true rfl⟩) ⟨bl_W, va_recv hKc hPc (ci := 1) (q0 := 0) rfl rfl, pr_W hPc hKc hDc⟩ rfl rfl hl.1 rfl (lv_room (Nat.le_of_ble_eq_true rfl)) dL_law_184 ⟨(by show 10 + (k + 1) + 0 ≤ 1042; omega), (by show 1548 + 6 * (k + 1) + 0 ≤ 9788; omega)⟩) hS (fun q _ h9 => hFc q h9) hFc (fun r24 w25 t H23 locs ht hvm hw hB hz1 hk1 hS => ?_)
            obtain ⟨hP1, hK1, hD1⟩ := hB
            rw [ht] at hP1
            obtain ⟨hP, hD⟩ := va_join (wr := (wX cI cZ hX u ++ [(ho, .inl (cJ, 1, .inr (.inl f)))])) (w1 := wM cI cZ hM w25) hP hD [6, 7, 8] [0, 1, 2, 3, 4, 5, 9] rfl rfl (by decide) (by decide) hk1 hFc hP1 hD1
            have hP : va_P D vwCl (wL cI cZ cJ hX hM ho u w25 f) H23 := hP.sub [0, 1, 2, 3, 4, 5, 7, 8, 9, 6] rfl
            have hD : va_D (fun q : Nat => s.heap.size ≤ q) (wL cI cZ cJ hX hM ho u w25 f) := hD.sub [0, 1, 2, 3, 4, 5, 7, 8, 9, 6] (by decide) rfl
            refine W.widen (k := 10 + (k + 1)) (n := 1548 + 6 * (k + 1)) (by omega) (by omega) ?_
            clear hPc hDc hKc hFc hP1 hK1 hD1
            obtain ⟨er24, hIw25⟩ := hw
            have eb : r24 = (pX1_sense v (xs (Int32.toNatClampNeg (x4 + 1))) (xs (Int32.toNatClampNeg (x4 + 2)))).1 := congrArg Prod.fst er24
            have ev : w25 = (pX1_sense v (xs (Int32.toNatClampNeg (x4 + 1))) (xs (Int32.toNatClampNeg (x4 + 2)))).2 := congrArg Prod.snd er24
            have hIw25 : InvM (100 * (k + 1)) w25 := hIw25.mono (by omega)
            refine lv_istore (lv' := [(6, .int r24), (5, .int 1), (0, .ref b), (1, .ref (hX 0)), (2, .ref (hM 0)), (3, .ref ho), (4, .int x4)]) hx hb dL_law_187 hl (by decide) rfl (fun ls hl => ?_)
            refine lv_aload_n hx hb dL_law_189 rfl (lv_at hl 4 rfl) ?_
            have hPc := hP.sub (ws' := wM cI cZ hM w25) [6, 7, 8] rfl
            have hDc := hD.sub (ws' := wM cI cZ hM w25) [6, 7, 8] (by decide) rfl
            have hKc := hK.sub (tys' := tyl cI cZ) [0, 1] rfl
            have hFc := va_free (wc := wM cI cZ hM w25) hD hS hA [6, 7, 8] rfl
            refine va_calli (va_runV (As := []) (rest := []) ⟨hx, hb, hml, hown, hts⟩ (kX1_thrown l D cI cZ hM H23.size w25  (100 * (k + 1)) hIw25 (by omega)) (cwV 0 hts gL_law_X1_thrown rfl rfl rfl (by decide +kernel) ⟨Nat.le_of_ble_eq_true rfl, Nat.le_of_ble_eq_true rfl⟩) ⟨bl_W, va_recv hKc hPc (ci := 1) (q0 := 0) rfl rfl, pr_W hPc hKc hDc⟩ rfl rfl hl.1 rfl (lv_room (Nat.le_of_ble_eq_true rfl)) dL_law_190 ⟨(by show 10 + (k + 1) + 0 ≤ 1042; omega), (by show 1548 + 6 * (k + 1) + 0 ≤ 9788; omega)⟩) hS (fun q _ h9 => hFc q h9) hFc (fun r27 w28 t H26 locs ht hvm hw hB hz1 hk1 hS => ?_)
            obtain ⟨hP1, hK1, hD1⟩ := hB
            rw [ht] at hP1
            obtain ⟨hP, hD⟩ := va_join (wr := (wX cI cZ hX u ++ [(ho, .inl (cJ, 1, .inr (.inl f)))])) (w1 := wM cI cZ hM w28) hP hD [6, 7, 8] [0, 1, 2, 3, 4, 5, 9] rfl rfl (by decide) (by decide) hk1 hFc hP1 hD1
            have hP : va_P D vwCl (wL cI cZ cJ hX hM ho u w28 f) H26 := hP.sub [0, 1, 2, 3, 4, 5, 7, 8, 9, 6] rfl
            have hD : va_D (fun q : Nat => s.heap.size ≤ q) (wL cI cZ cJ hX hM ho u w28 f) := hD.sub [0, 1, 2, 3, 4, 5, 7, 8, 9, 6] (by decide) rfl
            refine W.widen (k := 10 + (k + 1)) (n := 1548 + 6 * (k + 1)) (by omega) (by omega) ?_
            clear hPc hDc hKc hFc hP1 hK1 hD1
            obtain ⟨er27, ew28⟩ := hw
            rw [ew28] at hP hD
            refine lv_iload hx hb dL_law_193 (lv_at hl 1 rfl) ?_
            refine lv_icmp_eq (tgt := 200) hx hb dL_law_195 (by decide) (fun _ => ?_) (fun c9 => absurd (by rw [er27]; show mt w25 = _; rw [ev]; exact hs1) c9)
            refine lv_iload hx hb dL_law_200 (lv_at hl 1 rfl) ?_
            refine lv_if_ne (tgt := 217) hx hb dL_law_202 (by decide) (fun _ => ?_) (fun c9 => absurd c9 (by decide))
            refine lv_goto (tgt := 611) hx hb dL_law_217 (by decide) ?_
            exact NX u w25 f H26 _ _ (by rw [ev]; exact hs3) hI9 hIw25 hP hD hS (lv_sub hl [2, 3, 4, 5, 6] rfl)
        · skip
          by_cases cs2 : sw = 2
          · refine lv_tableIn (off := 181) (tgt := 220) hx hb dL_law_39 (by rw [cs2]; decide) (by rw [cs2]; decide) (by rw [cs2]; rfl) (by decide) ?_
            refine lv_aload_n hx hb dL_law_220 rfl (lv_at hl 1 rfl) ?_
            refine lv_aload_n hx hb dL_law_221 rfl (lv_at hl 0 rfl) ?_
            refine lv_iload hx hb dL_law_222 (lv_at hl 4 rfl) ?_
            refine lv_iconst (v := 1) hx hb dL_law_224 (by decide) ?_
            refine lv_iadd hx hb dL_law_225 ?_
            refine va_sld hx hb hX0 hbl hbA hS hv1 dL_law_226 ?_
            refine lv_aload_n hx hb dL_law_227 rfl (lv_at hl 0 rfl) ?_
            refine lv_iload hx hb dL_law_228 (lv_at hl 4 rfl) ?_
            refine lv_iconst (v := 2) hx hb dL_law_230 (by decide) ?_
            refine lv_iadd hx hb dL_law_231 ?_
            refine va_sld hx hb hX0 hbl hbA hS hv2 dL_law_232 ?_
            refine lv_if_eq (tgt := 240) hx hb dL_law_233 (by decide) (fun cb => ?_) (fun cb => ?_)
            · have hbb : bz 0 := bz0
              refine lv_iconst (v := 0) hx hb dL_law_240 (by decide) ?_
              refine lv_aload_n hx hb dL_law_241 rfl (lv_at hl 3 rfl) ?_
              have hPc := hP.sub (ws' := wO cI cZ cJ hX ho (u, f)) [0, 1, 2, 3, 4, 5, 9] rfl
              have hDc := hD.sub (ws' := wO cI cZ cJ hX ho (u, f)) [0, 1, 2, 3, 4, 5, 9] (by decide) rfl
              have hFc := va_free (wc := wO cI cZ cJ hX ho (u, f)) hD hS hA [0, 1, 2, 3, 4, 5, 9] rfl
              refine va_calli (vx_runSW (As := [.ref (hX 0), .int (xs (Int32.toNatClampNeg (x4 + 1))), .int 0, .ref ho]) (rest := []) ⟨hx, hb, hml, hown, hts⟩ (kL_channel l hlt D cI cZ cJ hX ho sa tL tH H.size u f (xs (Int32.toNatClampNeg (x4 + 1))) 0 hIX hbb) (vx_cwSW 4 hts gL_law_L_channel rfl rfl rfl (by decide +kernel) ⟨Nat.le_of_ble_eq_true rfl, Nat.le_of_ble_eq_true rfl⟩) ⟨bl_T, pr_T hPc hK hDc hT hS hFc⟩ rfl rfl hl.1 rfl (lv_room (Nat.le_of_ble_eq_true rfl)) dL_law_242 ⟨(by show 10 + k + 1 ≤ 1042; omega), (by show 1548 + 6 * k + 6 ≤ 9788; omega)⟩) hS (fun q _ h9 => hFc q h9) hFc (fun r30 w9 t H29 locs ht hvm hw hB hz1 hk1 hS => ?_)
              obtain ⟨u9, f9⟩ := w9
              obtain ⟨hP1, hK1, hD1⟩ := hB
              rw [ht] at hP1
              obtain ⟨hP, hD⟩ := va_join (wr := wM cI cZ hM v) (w1 := wO cI cZ cJ hX ho (u9, f9)) hP hD [0, 1, 2, 3, 4, 5, 9] [6, 7, 8] rfl rfl (by decide) (by decide) hk1 hFc hP1 hD1
              have hP : va_P D vwCl (wL cI cZ cJ hX hM ho u9 v f9) H29 := hP.sub [3, 4, 5, 6, 7, 8, 0, 1, 2, 9] rfl
              have hD : va_D (fun q : Nat => s.heap.size ≤ q) (wL cI cZ cJ hX hM ho u9 v f9) := hD.sub [3, 4, 5, 6, 7, 8, 0, 1, 2, 9] (by decide) rfl
              refine W.widen (k := 10 + (k + 1)) (n := 1548 + 6 * (k + 1)) (by omega) (by omega) ?_
              clear hPc hDc hFc hP1 hK1 hD1
              obtain ⟨hI9, hw⟩ := hw
              rcases hw with ⟨x9, hq, hr9, hf⟩ | ⟨hq, hr9, hwf⟩
              · have hI9 : InvX u9 := hI9
                have hr9 : r30 = 0 := hr9
                subst hr9
                have hf : f9 = _ := hf
                have hq : pX0_channel u (xs (Int32.toNatClampNeg (x4 + 1))) 0 = some (x9, u9) := hq
                have hsim := sim_channel hR hIX hIM (by omega) (xs (Int32.toNatClampNeg (x4 + 1))) 0 hbb
                rw [hq] at hsim
                obtain ⟨hs1, hs2, hs3⟩ := hsim
                refine lv_istore (lv' := [(5, .int 0), (0, .ref b), (1, .ref (hX 0)), (2, .ref (hM 0)), (3, .ref ho), (4, .int x4)]) hx hb dL_law_245 hl (by decide) rfl (fun ls hl => ?_)
                refine lv_aload_n hx hb dL_law_247 rfl (lv_at hl 3 rfl) ?_
                refine lv_aload_n hx hb dL_law_248 rfl (lv_at hl 1 rfl) ?_
                refine lv_iload hx hb dL_law_249 (lv_at hl 5 rfl) ?_
                refine lv_iconst (v := 1) hx hb dL_law_251 (by decide) ?_
                refine lv_iadd hx hb dL_law_252 ?_
                refine va_sld hx hb hX0 hbl hbA hS hv1 dL_law_253 ?_
                refine lv_aload_n hx hb dL_law_254 rfl (lv_at hl 1 rfl) ?_
                refine lv_iload hx hb dL_law_255 (lv_at hl 5 rfl) ?_
                refine lv_iconst (v := 2) hx hb dL_law_257 (by decide) ?_
                refine lv_iadd hx hb dL_law_258 ?_
                refine va_sld hx hb hX0 hbl hbA hS hv2 dL_law_259 ?_
                refine lv_if_eq (tgt := 267) hx hb dL_law_260 (by decide) (fun _ => ?_) (fun c9 => absurd cb c9)
                refine lv_iconst (v := 0) hx hb dL_law_267 (by decide) ?_
                have hPc := hP.sub (ws' := wM cI cZ hM v) [6, 7, 8] rfl
                have hDc := hD.sub (ws' := wM cI cZ hM v) [6, 7, 8] (by decide) rfl
                have hKc := hK.sub (tys' := tyl cI cZ) [0, 1] rfl
                have hFc := va_free (wc := wM cI cZ hM v) hD hS hA [6, 7, 8] rfl
                refine va_calli (va_runV (As := [.int (xs (Int32.toNatClampNeg (x4 + 1))), .int 0]) (rest := []) ⟨hx, hb, hml, hown, hts⟩ (kX1_channel l D cI cZ hM H29.size v (xs (Int32.toNatClampNeg (x4 + 1))) 0 (100 * k) hIM (by omega) hbb) (cwV 2 hts gL_law_X1_channel rfl rfl rfl (by decide +kernel) ⟨Nat.le_of_ble_eq_true rfl, Nat.le_of_ble_eq_true rfl⟩) ⟨bl_W, va_recv hKc hPc (ci := 1) (q0 := 0) rfl rfl, pr_W hPc hKc hDc⟩ rfl rfl hl.1 rfl (lv_room (Nat.le_of_ble_eq_true rfl)) dL_law_268 ⟨(by show 10 + (k + 1) + 0 ≤ 1042; omega), (by show 1548 + 6 * (k + 1) + 0 ≤ 9788; omega)⟩) hS (fun q _ h9 => hFc q h9) hFc (fun r32 w33 t H31 locs ht hvm hw hB hz1 hk1 hS => ?_)
                obtain ⟨hP1, hK1, hD1⟩ := hB
                rw [ht] at hP1
                obtain ⟨hP, hD⟩ := va_join (wr := (wX cI cZ hX u9 ++ [(ho, .inl (cJ, 1, .inr (.inl f9)))])) (w1 := wM cI cZ hM w33) hP hD [6, 7, 8] [0, 1, 2, 3, 4, 5, 9] rfl rfl (by decide) (by decide) hk1 hFc hP1 hD1
                have hP : va_P D vwCl (wL cI cZ cJ hX hM ho u9 w33 f9) H31 := hP.sub [0, 1, 2, 3, 4, 5, 7, 8, 9, 6] rfl
                have hD : va_D (fun q : Nat => s.heap.size ≤ q) (wL cI cZ cJ hX hM ho u9 w33 f9) := hD.sub [0, 1, 2, 3, 4, 5, 7, 8, 9, 6] (by decide) rfl
                refine W.widen (k := 10 + (k + 1)) (n := 1548 + 6 * (k + 1)) (by omega) (by omega) ?_
                clear hPc hDc hKc hFc hP1 hK1 hD1
                obtain ⟨er32, hIw33⟩ := hw
                have eb : r32 = (pX1_channel v (xs (Int32.toNatClampNeg (x4 + 1))) 0).1 := congrArg Prod.fst er32
                have ev : w33 = (pX1_channel v (xs (Int32.toNatClampNeg (x4 + 1))) 0).2 := congrArg Prod.snd er32
                have hIw33 : InvM (100 * (k + 1)) w33 := hIw33.mono (by omega)
                refine lv_istore (lv' := [(6, .int r32), (5, .int 0), (0, .ref b), (1, .ref (hX 0)), (2, .ref (hM 0)), (3, .ref ho), (4, .int x4)]) hx hb dL_law_271 hl (by decide) rfl (fun ls hl => ?_)
                refine lv_aload_n hx hb dL_law_273 rfl (lv_at hl 4 rfl) ?_
                have hPc := hP.sub (ws' := wM cI cZ hM w33) [6, 7, 8] rfl
                have hDc := hD.sub (ws' := wM cI cZ hM w33) [6, 7, 8] (by decide) rfl
                have hKc := hK.sub (tys' := tyl cI cZ) [0, 1] rfl
                have hFc := va_free (wc := wM cI cZ hM w33) hD hS hA [6, 7, 8] rfl
                refine va_calli (va_runV (As := []) (rest := []) ⟨hx, hb, hml, hown, hts⟩ (kX1_thrown l D cI cZ hM H31.size w33  (100 * (k + 1)) hIw33 (by omega)) (cwV 0 hts gL_law_X1_thrown rfl rfl rfl (by decide +kernel) ⟨Nat.le_of_ble_eq_true rfl, Nat.le_of_ble_eq_true rfl⟩) ⟨bl_W, va_recv hKc hPc (ci := 1) (q0 := 0) rfl rfl, pr_W hPc hKc hDc⟩ rfl rfl hl.1 rfl (lv_room (Nat.le_of_ble_eq_true rfl)) dL_law_274 ⟨(by show 10 + (k + 1) + 0 ≤ 1042; omega), (by show 1548 + 6 * (k + 1) + 0 ≤ 9788; omega)⟩) hS (fun q _ h9 => hFc q h9) hFc (fun r35 w36 t H34 locs ht hvm hw hB hz1 hk1 hS => ?_)
                obtain ⟨hP1, hK1, hD1⟩ := hB
                rw [ht] at hP1
                obtain ⟨hP, hD⟩ := va_join (wr := (wX cI cZ hX u9 ++ [(ho, .inl (cJ, 1, .inr (.inl f9)))])) (w1 := wM cI cZ hM w36) hP hD [6, 7, 8] [0, 1, 2, 3, 4, 5, 9] rfl rfl (by decide) (by decide) hk1 hFc hP1 hD1
                have hP : va_P D vwCl (wL cI cZ cJ hX hM ho u9 w36 f9) H34 := hP.sub [0, 1, 2, 3, 4, 5, 7, 8, 9, 6] rfl
                have hD : va_D (fun q : Nat => s.heap.size ≤ q) (wL cI cZ cJ hX hM ho u9 w36 f9) := hD.sub [0, 1, 2, 3, 4, 5, 7, 8, 9, 6] (by decide) rfl
                refine W.widen (k := 10 + (k + 1)) (n := 1548 + 6 * (k + 1)) (by omega) (by omega) ?_
                clear hPc hDc hKc hFc hP1 hK1 hD1
                obtain ⟨er35, ew36⟩ := hw
                rw [ew36] at hP hD
                refine lv_iload hx hb dL_law_277 (lv_at hl 1 rfl) ?_
                refine lv_icmp_eq (tgt := 284) hx hb dL_law_279 (by decide) (fun _ => ?_) (fun c9 => absurd (by rw [er35]; show mt w33 = _; rw [ev]; exact hs1) c9)
                refine lv_iload hx hb dL_law_284 (lv_at hl 1 rfl) ?_
                refine lv_if_ne (tgt := 301) hx hb dL_law_286 (by decide) (fun c9 => absurd rfl c9) (fun _ => ?_)
                refine lv_aload_n hx hb dL_law_289 rfl (lv_at hl 5 rfl) ?_
                refine lv_iconst (v := 0) hx hb dL_law_290 (by decide) ?_
                refine va_lald hx hb hK hP 9 2 rfl rfl (vi_c (by decide)) dL_law_291 ?_
                refine lv_iload hx hb dL_law_292 (lv_at hl 0 rfl) ?_
                refine lv_i2l (v := (Int32.toInt64 r32)) hx hb dL_law_294 rfl ?_
                refine W.lcmp hx hb dL_law_295 ?_
                rw [show (f9 (Int32.toNatClampNeg 0)) = (Int32.toInt64 r32) from (by rw [hf, eb, hs2]; rfl), lc_cmp]
                refine lv_if_eq (tgt := 301) hx hb dL_law_296 (by decide) (fun _ => ?_) (fun c9 => absurd rfl c9)
                refine lv_goto (tgt := 611) hx hb dL_law_301 (by decide) ?_
                exact NX u9 w33 f9 H34 _ _ (by rw [ev]; exact hs3) hI9 hIw33 hP hD hS (lv_sub hl [2, 3, 4, 5, 6] rfl)
              · have hI9 : InvX u9 := hI9
                have hr9 : r30 = 1 := hr9
                subst hr9
                have hwf : (u9, f9) = (u, f) := hwf
                obtain ⟨e8, e9⟩ := Prod.mk.inj hwf
                rw [e8] at hP hD hI9
                rw [e9] at hP hD
                clear e8 e9 hwf
                have hsim := sim_channel hR hIX hIM (by omega) (xs (Int32.toNatClampNeg (x4 + 1))) 0 hbb
                rw [hq] at hsim
                obtain ⟨hs1, hs3⟩ := hsim
                refine lv_istore (lv' := [(5, .int 1), (0, .ref b), (1, .ref (hX 0)), (2, .ref (hM 0)), (3, .ref ho), (4, .int x4)]) hx hb dL_law_245 hl (by decide) rfl (fun ls hl => ?_)
                refine lv_aload_n hx hb dL_law_247 rfl (lv_at hl 3 rfl) ?_
                refine lv_aload_n hx hb dL_law_248 rfl (lv_at hl 1 rfl) ?_
                refine lv_iload hx hb dL_law_249 (lv_at hl 5 rfl) ?_
                refine lv_iconst (v := 1) hx hb dL_law_251 (by decide) ?_
                refine lv_iadd hx hb dL_law_252 ?_
                refine va_sld hx hb hX0 hbl hbA hS hv1 dL_law_253 ?_
                refine lv_aload_n hx hb dL_law_254 rfl (lv_at hl 1 rfl) ?_
                refine lv_iload hx hb dL_law_255 (lv_at hl 5 rfl) ?_
                refine lv_iconst (v := 2) hx hb dL_law_257 (by decide) ?_
                refine lv_iadd hx hb dL_law_258 ?_
                refine va_sld hx hb hX0 hbl hbA hS hv2 dL_law_259 ?_
                refine lv_if_eq (tgt := 267) hx hb dL_law_260 (by decide) (fun _ => ?_) (fun c9 => absurd cb c9)
                refine lv_iconst (v := 0) hx hb dL_law_267 (by decide) ?_
                have hPc := hP.sub (ws' := wM cI cZ hM v) [6, 7, 8] rfl
                have hDc := hD.sub (ws' := wM cI cZ hM v) [6, 7, 8] (by decide) rfl
                have hKc := hK.sub (tys' := tyl cI cZ) [0, 1] rfl
                have hFc := va_free (wc := wM cI cZ hM v) hD hS hA [6, 7, 8] rfl
                refine va_calli (va_runV (As := [.int (xs (Int32.toNatClampNeg (x4 + 1))), .int 0]) (rest := []) ⟨hx, hb, hml, hown, hts⟩ (kX1_channel l D cI cZ hM H29.size v (xs (Int32.toNatClampNeg (x4 + 1))) 0 (100 * k) hIM (by omega) hbb) (cwV 2 hts gL_law_X1_channel rfl rfl rfl (by decide +kernel) ⟨Nat.le_of_ble_eq_true rfl, Nat.le_of_ble_eq_true rfl⟩) ⟨bl_W, va_recv hKc hPc (ci := 1) (q0 := 0) rfl rfl, pr_W hPc hKc hDc⟩ rfl rfl hl.1 rfl (lv_room (Nat.le_of_ble_eq_true rfl)) dL_law_268 ⟨(by show 10 + (k + 1) + 0 ≤ 1042; omega), (by show 1548 + 6 * (k + 1) + 0 ≤ 9788; omega)⟩) hS (fun q _ h9 => hFc q h9) hFc (fun r38 w39 t H37 locs ht hvm hw hB hz1 hk1 hS => ?_)
                obtain ⟨hP1, hK1, hD1⟩ := hB
                rw [ht] at hP1
                obtain ⟨hP, hD⟩ := va_join (wr := (wX cI cZ hX u ++ [(ho, .inl (cJ, 1, .inr (.inl f)))])) (w1 := wM cI cZ hM w39) hP hD [6, 7, 8] [0, 1, 2, 3, 4, 5, 9] rfl rfl (by decide) (by decide) hk1 hFc hP1 hD1
                have hP : va_P D vwCl (wL cI cZ cJ hX hM ho u w39 f) H37 := hP.sub [0, 1, 2, 3, 4, 5, 7, 8, 9, 6] rfl
                have hD : va_D (fun q : Nat => s.heap.size ≤ q) (wL cI cZ cJ hX hM ho u w39 f) := hD.sub [0, 1, 2, 3, 4, 5, 7, 8, 9, 6] (by decide) rfl
                refine W.widen (k := 10 + (k + 1)) (n := 1548 + 6 * (k + 1)) (by omega) (by omega) ?_
                clear hPc hDc hKc hFc hP1 hK1 hD1
                obtain ⟨er38, hIw39⟩ := hw
                have eb : r38 = (pX1_channel v (xs (Int32.toNatClampNeg (x4 + 1))) 0).1 := congrArg Prod.fst er38
                have ev : w39 = (pX1_channel v (xs (Int32.toNatClampNeg (x4 + 1))) 0).2 := congrArg Prod.snd er38
                have hIw39 : InvM (100 * (k + 1)) w39 := hIw39.mono (by omega)
                refine lv_istore (lv' := [(6, .int r38), (5, .int 1), (0, .ref b), (1, .ref (hX 0)), (2, .ref (hM 0)), (3, .ref ho), (4, .int x4)]) hx hb dL_law_271 hl (by decide) rfl (fun ls hl => ?_)
                refine lv_aload_n hx hb dL_law_273 rfl (lv_at hl 4 rfl) ?_
                have hPc := hP.sub (ws' := wM cI cZ hM w39) [6, 7, 8] rfl
                have hDc := hD.sub (ws' := wM cI cZ hM w39) [6, 7, 8] (by decide) rfl
                have hKc := hK.sub (tys' := tyl cI cZ) [0, 1] rfl
                have hFc := va_free (wc := wM cI cZ hM w39) hD hS hA [6, 7, 8] rfl
                refine va_calli (va_runV (As := []) (rest := []) ⟨hx, hb, hml, hown, hts⟩ (kX1_thrown l D cI cZ hM H37.size w39  (100 * (k + 1)) hIw39 (by omega)) (cwV 0 hts gL_law_X1_thrown rfl rfl rfl (by decide +kernel) ⟨Nat.le_of_ble_eq_true rfl, Nat.le_of_ble_eq_true rfl⟩) ⟨bl_W, va_recv hKc hPc (ci := 1) (q0 := 0) rfl rfl, pr_W hPc hKc hDc⟩ rfl rfl hl.1 rfl (lv_room (Nat.le_of_ble_eq_true rfl)) dL_law_274 ⟨(by show 10 + (k + 1) + 0 ≤ 1042; omega), (by show 1548 + 6 * (k + 1) + 0 ≤ 9788; omega)⟩) hS (fun q _ h9 => hFc q h9) hFc (fun r41 w42 t H40 locs ht hvm hw hB hz1 hk1 hS => ?_)
                obtain ⟨hP1, hK1, hD1⟩ := hB
                rw [ht] at hP1
                obtain ⟨hP, hD⟩ := va_join (wr := (wX cI cZ hX u ++ [(ho, .inl (cJ, 1, .inr (.inl f)))])) (w1 := wM cI cZ hM w42) hP hD [6, 7, 8] [0, 1, 2, 3, 4, 5, 9] rfl rfl (by decide) (by decide) hk1 hFc hP1 hD1
                have hP : va_P D vwCl (wL cI cZ cJ hX hM ho u w42 f) H40 := hP.sub [0, 1, 2, 3, 4, 5, 7, 8, 9, 6] rfl
                have hD : va_D (fun q : Nat => s.heap.size ≤ q) (wL cI cZ cJ hX hM ho u w42 f) := hD.sub [0, 1, 2, 3, 4, 5, 7, 8, 9, 6] (by decide) rfl
                refine W.widen (k := 10 + (k + 1)) (n := 1548 + 6 * (k + 1)) (by omega) (by omega) ?_
                clear hPc hDc hKc hFc hP1 hK1 hD1
                obtain ⟨er41, ew42⟩ := hw
                rw [ew42] at hP hD
                refine lv_iload hx hb dL_law_277 (lv_at hl 1 rfl) ?_
                refine lv_icmp_eq (tgt := 284) hx hb dL_law_279 (by decide) (fun _ => ?_) (fun c9 => absurd (by rw [er41]; show mt w39 = _; rw [ev]; exact hs1) c9)
                refine lv_iload hx hb dL_law_284 (lv_at hl 1 rfl) ?_
                refine lv_if_ne (tgt := 301) hx hb dL_law_286 (by decide) (fun _ => ?_) (fun c9 => absurd c9 (by decide))
                refine lv_goto (tgt := 611) hx hb dL_law_301 (by decide) ?_
                exact NX u w39 f H40 _ _ (by rw [ev]; exact hs3) hI9 hIw39 hP hD hS (lv_sub hl [2, 3, 4, 5, 6] rfl)
            · have hbb : bz 1 := bz1
              refine lv_iconst (v := 1) hx hb dL_law_236 (by decide) ?_
              refine lv_goto (tgt := 241) hx hb dL_law_237 (by decide) ?_
              refine lv_aload_n hx hb dL_law_241 rfl (lv_at hl 3 rfl) ?_
              have hPc := hP.sub (ws' := wO cI cZ cJ hX ho (u, f)) [0, 1, 2, 3, 4, 5, 9] rfl
              have hDc := hD.sub (ws' := wO cI cZ cJ hX ho (u, f)) [0, 1, 2, 3, 4, 5, 9] (by decide) rfl
              have hFc := va_free (wc := wO cI cZ cJ hX ho (u, f)) hD hS hA [0, 1, 2, 3, 4, 5, 9] rfl
              refine va_calli (vx_runSW (As := [.ref (hX 0), .int (xs (Int32.toNatClampNeg (x4 + 1))), .int 1, .ref ho]) (rest := []) ⟨hx, hb, hml, hown, hts⟩ (kL_channel l hlt D cI cZ cJ hX ho sa tL tH H.size u f (xs (Int32.toNatClampNeg (x4 + 1))) 1 hIX hbb) (vx_cwSW 4 hts gL_law_L_channel rfl rfl rfl (by decide +kernel) ⟨Nat.le_of_ble_eq_true rfl, Nat.le_of_ble_eq_true rfl⟩) ⟨bl_T, pr_T hPc hK hDc hT hS hFc⟩ rfl rfl hl.1 rfl (lv_room (Nat.le_of_ble_eq_true rfl)) dL_law_242 ⟨(by show 10 + k + 1 ≤ 1042; omega), (by show 1548 + 6 * k + 6 ≤ 9788; omega)⟩) hS (fun q _ h9 => hFc q h9) hFc (fun r44 w9 t H43 locs ht hvm hw hB hz1 hk1 hS => ?_)
              obtain ⟨u9, f9⟩ := w9
              obtain ⟨hP1, hK1, hD1⟩ := hB
              rw [ht] at hP1
              obtain ⟨hP, hD⟩ := va_join (wr := wM cI cZ hM v) (w1 := wO cI cZ cJ hX ho (u9, f9)) hP hD [0, 1, 2, 3, 4, 5, 9] [6, 7, 8] rfl rfl (by decide) (by decide) hk1 hFc hP1 hD1
              have hP : va_P D vwCl (wL cI cZ cJ hX hM ho u9 v f9) H43 := hP.sub [3, 4, 5, 6, 7, 8, 0, 1, 2, 9] rfl
              have hD : va_D (fun q : Nat => s.heap.size ≤ q) (wL cI cZ cJ hX hM ho u9 v f9) := hD.sub [3, 4, 5, 6, 7, 8, 0, 1, 2, 9] (by decide) rfl
              refine W.widen (k := 10 + (k + 1)) (n := 1548 + 6 * (k + 1)) (by omega) (by omega) ?_
              clear hPc hDc hFc hP1 hK1 hD1
              obtain ⟨hI9, hw⟩ := hw
              rcases hw with ⟨x9, hq, hr9, hf⟩ | ⟨hq, hr9, hwf⟩
              · have hI9 : InvX u9 := hI9
                have hr9 : r44 = 0 := hr9
                subst hr9
                have hf : f9 = _ := hf
                have hq : pX0_channel u (xs (Int32.toNatClampNeg (x4 + 1))) 1 = some (x9, u9) := hq
                have hsim := sim_channel hR hIX hIM (by omega) (xs (Int32.toNatClampNeg (x4 + 1))) 1 hbb
                rw [hq] at hsim
                obtain ⟨hs1, hs2, hs3⟩ := hsim
                refine lv_istore (lv' := [(5, .int 0), (0, .ref b), (1, .ref (hX 0)), (2, .ref (hM 0)), (3, .ref ho), (4, .int x4)]) hx hb dL_law_245 hl (by decide) rfl (fun ls hl => ?_)
                refine lv_aload_n hx hb dL_law_247 rfl (lv_at hl 3 rfl) ?_
                refine lv_aload_n hx hb dL_law_248 rfl (lv_at hl 1 rfl) ?_
                refine lv_iload hx hb dL_law_249 (lv_at hl 5 rfl) ?_
                refine lv_iconst (v := 1) hx hb dL_law_251 (by decide) ?_
                refine lv_iadd hx hb dL_law_252 ?_
                refine va_sld hx hb hX0 hbl hbA hS hv1 dL_law_253 ?_
                refine lv_aload_n hx hb dL_law_254 rfl (lv_at hl 1 rfl) ?_
                refine lv_iload hx hb dL_law_255 (lv_at hl 5 rfl) ?_
                refine lv_iconst (v := 2) hx hb dL_law_257 (by decide) ?_
                refine lv_iadd hx hb dL_law_258 ?_
                refine va_sld hx hb hX0 hbl hbA hS hv2 dL_law_259 ?_
                refine lv_if_eq (tgt := 267) hx hb dL_law_260 (by decide) (fun c9 => absurd c9 cb) (fun _ => ?_)
                refine lv_iconst (v := 1) hx hb dL_law_263 (by decide) ?_
                refine lv_goto (tgt := 268) hx hb dL_law_264 (by decide) ?_
                have hPc := hP.sub (ws' := wM cI cZ hM v) [6, 7, 8] rfl
                have hDc := hD.sub (ws' := wM cI cZ hM v) [6, 7, 8] (by decide) rfl
                have hKc := hK.sub (tys' := tyl cI cZ) [0, 1] rfl
                have hFc := va_free (wc := wM cI cZ hM v) hD hS hA [6, 7, 8] rfl
                refine va_calli (va_runV (As := [.int (xs (Int32.toNatClampNeg (x4 + 1))), .int 1]) (rest := []) ⟨hx, hb, hml, hown, hts⟩ (kX1_channel l D cI cZ hM H43.size v (xs (Int32.toNatClampNeg (x4 + 1))) 1 (100 * k) hIM (by omega) hbb) (cwV 2 hts gL_law_X1_channel rfl rfl rfl (by decide +kernel) ⟨Nat.le_of_ble_eq_true rfl, Nat.le_of_ble_eq_true rfl⟩) ⟨bl_W, va_recv hKc hPc (ci := 1) (q0 := 0) rfl rfl, pr_W hPc hKc hDc⟩ rfl rfl hl.1 rfl (lv_room (Nat.le_of_ble_eq_true rfl)) dL_law_268 ⟨(by show 10 + (k + 1) + 0 ≤ 1042; omega), (by show 1548 + 6 * (k + 1) + 0 ≤ 9788; omega)⟩) hS (fun q _ h9 => hFc q h9) hFc (fun r46 w47 t H45 locs ht hvm hw hB hz1 hk1 hS => ?_)
                obtain ⟨hP1, hK1, hD1⟩ := hB
                rw [ht] at hP1
                obtain ⟨hP, hD⟩ := va_join (wr := (wX cI cZ hX u9 ++ [(ho, .inl (cJ, 1, .inr (.inl f9)))])) (w1 := wM cI cZ hM w47) hP hD [6, 7, 8] [0, 1, 2, 3, 4, 5, 9] rfl rfl (by decide) (by decide) hk1 hFc hP1 hD1
                have hP : va_P D vwCl (wL cI cZ cJ hX hM ho u9 w47 f9) H45 := hP.sub [0, 1, 2, 3, 4, 5, 7, 8, 9, 6] rfl
                have hD : va_D (fun q : Nat => s.heap.size ≤ q) (wL cI cZ cJ hX hM ho u9 w47 f9) := hD.sub [0, 1, 2, 3, 4, 5, 7, 8, 9, 6] (by decide) rfl
                refine W.widen (k := 10 + (k + 1)) (n := 1548 + 6 * (k + 1)) (by omega) (by omega) ?_
                clear hPc hDc hKc hFc hP1 hK1 hD1
                obtain ⟨er46, hIw47⟩ := hw
                have eb : r46 = (pX1_channel v (xs (Int32.toNatClampNeg (x4 + 1))) 1).1 := congrArg Prod.fst er46
                have ev : w47 = (pX1_channel v (xs (Int32.toNatClampNeg (x4 + 1))) 1).2 := congrArg Prod.snd er46
                have hIw47 : InvM (100 * (k + 1)) w47 := hIw47.mono (by omega)
                refine lv_istore (lv' := [(6, .int r46), (5, .int 0), (0, .ref b), (1, .ref (hX 0)), (2, .ref (hM 0)), (3, .ref ho), (4, .int x4)]) hx hb dL_law_271 hl (by decide) rfl (fun ls hl => ?_)
                refine lv_aload_n hx hb dL_law_273 rfl (lv_at hl 4 rfl) ?_
                have hPc := hP.sub (ws' := wM cI cZ hM w47) [6, 7, 8] rfl
                have hDc := hD.sub (ws' := wM cI cZ hM w47) [6, 7, 8] (by decide) rfl
                have hKc := hK.sub (tys' := tyl cI cZ) [0, 1] rfl
                have hFc := va_free (wc := wM cI cZ hM w47) hD hS hA [6, 7, 8] rfl
                refine va_calli (va_runV (As := []) (rest := []) ⟨hx, hb, hml, hown, hts⟩ (kX1_thrown l D cI cZ hM H45.size w47  (100 * (k + 1)) hIw47 (by omega)) (cwV 0 hts gL_law_X1_thrown rfl rfl rfl (by decide +kernel) ⟨Nat.le_of_ble_eq_true rfl, Nat.le_of_ble_eq_true rfl⟩) ⟨bl_W, va_recv hKc hPc (ci := 1) (q0 := 0) rfl rfl, pr_W hPc hKc hDc⟩ rfl rfl hl.1 rfl (lv_room (Nat.le_of_ble_eq_true rfl)) dL_law_274 ⟨(by show 10 + (k + 1) + 0 ≤ 1042; omega), (by show 1548 + 6 * (k + 1) + 0 ≤ 9788; omega)⟩) hS (fun q _ h9 => hFc q h9) hFc (fun r49 w50 t H48 locs ht hvm hw hB hz1 hk1 hS => ?_)
                obtain ⟨hP1, hK1, hD1⟩ := hB
                rw [ht] at hP1
                obtain ⟨hP, hD⟩ := va_join (wr := (wX cI cZ hX u9 ++ [(ho, .inl (cJ, 1, .inr (.inl f9)))])) (w1 := wM cI cZ hM w50) hP hD [6, 7, 8] [0, 1, 2, 3, 4, 5, 9] rfl rfl (by decide) (by decide) hk1 hFc hP1 hD1
                have hP : va_P D vwCl (wL cI cZ cJ hX hM ho u9 w50 f9) H48 := hP.sub [0, 1, 2, 3, 4, 5, 7, 8, 9, 6] rfl
                have hD : va_D (fun q : Nat => s.heap.size ≤ q) (wL cI cZ cJ hX hM ho u9 w50 f9) := hD.sub [0, 1, 2, 3, 4, 5, 7, 8, 9, 6] (by decide) rfl
                refine W.widen (k := 10 + (k + 1)) (n := 1548 + 6 * (k + 1)) (by omega) (by omega) ?_
                clear hPc hDc hKc hFc hP1 hK1 hD1
                obtain ⟨er49, ew50⟩ := hw
                rw [ew50] at hP hD
                refine lv_iload hx hb dL_law_277 (lv_at hl 1 rfl) ?_
                refine lv_icmp_eq (tgt := 284) hx hb dL_law_279 (by decide) (fun _ => ?_) (fun c9 => absurd (by rw [er49]; show mt w47 = _; rw [ev]; exact hs1) c9)
                refine lv_iload hx hb dL_law_284 (lv_at hl 1 rfl) ?_
                refine lv_if_ne (tgt := 301) hx hb dL_law_286 (by decide) (fun c9 => absurd rfl c9) (fun _ => ?_)
                refine lv_aload_n hx hb dL_law_289 rfl (lv_at hl 5 rfl) ?_
                refine lv_iconst (v := 0) hx hb dL_law_290 (by decide) ?_
                refine va_lald hx hb hK hP 9 2 rfl rfl (vi_c (by decide)) dL_law_291 ?_
                refine lv_iload hx hb dL_law_292 (lv_at hl 0 rfl) ?_
                refine lv_i2l (v := (Int32.toInt64 r46)) hx hb dL_law_294 rfl ?_
                refine W.lcmp hx hb dL_law_295 ?_
                rw [show (f9 (Int32.toNatClampNeg 0)) = (Int32.toInt64 r46) from (by rw [hf, eb, hs2]; rfl), lc_cmp]
                refine lv_if_eq (tgt := 301) hx hb dL_law_296 (by decide) (fun _ => ?_) (fun c9 => absurd rfl c9)
                refine lv_goto (tgt := 611) hx hb dL_law_301 (by decide) ?_
                exact NX u9 w47 f9 H48 _ _ (by rw [ev]; exact hs3) hI9 hIw47 hP hD hS (lv_sub hl [2, 3, 4, 5, 6] rfl)
              · have hI9 : InvX u9 := hI9
                have hr9 : r44 = 1 := hr9
                subst hr9
                have hwf : (u9, f9) = (u, f) := hwf
                obtain ⟨e8, e9⟩ := Prod.mk.inj hwf
                rw [e8] at hP hD hI9
                rw [e9] at hP hD
                clear e8 e9 hwf
                have hsim := sim_channel hR hIX hIM (by omega) (xs (Int32.toNatClampNeg (x4 + 1))) 1 hbb
                rw [hq] at hsim
                obtain ⟨hs1, hs3⟩ := hsim
                refine lv_istore (lv' := [(5, .int 1), (0, .ref b), (1, .ref (hX 0)), (2, .ref (hM 0)), (3, .ref ho), (4, .int x4)]) hx hb dL_law_245 hl (by decide) rfl (fun ls hl => ?_)
                refine lv_aload_n hx hb dL_law_247 rfl (lv_at hl 3 rfl) ?_
                refine lv_aload_n hx hb dL_law_248 rfl (lv_at hl 1 rfl) ?_
                refine lv_iload hx hb dL_law_249 (lv_at hl 5 rfl) ?_
                refine lv_iconst (v := 1) hx hb dL_law_251 (by decide) ?_
                refine lv_iadd hx hb dL_law_252 ?_
                refine va_sld hx hb hX0 hbl hbA hS hv1 dL_law_253 ?_
                refine lv_aload_n hx hb dL_law_254 rfl (lv_at hl 1 rfl) ?_
                refine lv_iload hx hb dL_law_255 (lv_at hl 5 rfl) ?_
                refine lv_iconst (v := 2) hx hb dL_law_257 (by decide) ?_
                refine lv_iadd hx hb dL_law_258 ?_
                refine va_sld hx hb hX0 hbl hbA hS hv2 dL_law_259 ?_
                refine lv_if_eq (tgt := 267) hx hb dL_law_260 (by decide) (fun c9 => absurd c9 cb) (fun _ => ?_)
                refine lv_iconst (v := 1) hx hb dL_law_263 (by decide) ?_
                refine lv_goto (tgt := 268) hx hb dL_law_264 (by decide) ?_
                have hPc := hP.sub (ws' := wM cI cZ hM v) [6, 7, 8] rfl
                have hDc := hD.sub (ws' := wM cI cZ hM v) [6, 7, 8] (by decide) rfl
                have hKc := hK.sub (tys' := tyl cI cZ) [0, 1] rfl
                have hFc := va_free (wc := wM cI cZ hM v) hD hS hA [6, 7, 8] rfl
                refine va_calli (va_runV (As := [.int (xs (Int32.toNatClampNeg (x4 + 1))), .int 1]) (rest := []) ⟨hx, hb, hml, hown, hts⟩ (kX1_channel l D cI cZ hM H43.size v (xs (Int32.toNatClampNeg (x4 + 1))) 1 (100 * k) hIM (by omega) hbb) (cwV 2 hts gL_law_X1_channel rfl rfl rfl (by decide +kernel) ⟨Nat.le_of_ble_eq_true rfl, Nat.le_of_ble_eq_true rfl⟩) ⟨bl_W, va_recv hKc hPc (ci := 1) (q0 := 0) rfl rfl, pr_W hPc hKc hDc⟩ rfl rfl hl.1 rfl (lv_room (Nat.le_of_ble_eq_true rfl)) dL_law_268 ⟨(by show 10 + (k + 1) + 0 ≤ 1042; omega), (by show 1548 + 6 * (k + 1) + 0 ≤ 9788; omega)⟩) hS (fun q _ h9 => hFc q h9) hFc (fun r52 w53 t H51 locs ht hvm hw hB hz1 hk1 hS => ?_)
                obtain ⟨hP1, hK1, hD1⟩ := hB
                rw [ht] at hP1
                obtain ⟨hP, hD⟩ := va_join (wr := (wX cI cZ hX u ++ [(ho, .inl (cJ, 1, .inr (.inl f)))])) (w1 := wM cI cZ hM w53) hP hD [6, 7, 8] [0, 1, 2, 3, 4, 5, 9] rfl rfl (by decide) (by decide) hk1 hFc hP1 hD1
                have hP : va_P D vwCl (wL cI cZ cJ hX hM ho u w53 f) H51 := hP.sub [0, 1, 2, 3, 4, 5, 7, 8, 9, 6] rfl
                have hD : va_D (fun q : Nat => s.heap.size ≤ q) (wL cI cZ cJ hX hM ho u w53 f) := hD.sub [0, 1, 2, 3, 4, 5, 7, 8, 9, 6] (by decide) rfl
                refine W.widen (k := 10 + (k + 1)) (n := 1548 + 6 * (k + 1)) (by omega) (by omega) ?_
                clear hPc hDc hKc hFc hP1 hK1 hD1
                obtain ⟨er52, hIw53⟩ := hw
                have eb : r52 = (pX1_channel v (xs (Int32.toNatClampNeg (x4 + 1))) 1).1 := congrArg Prod.fst er52
                have ev : w53 = (pX1_channel v (xs (Int32.toNatClampNeg (x4 + 1))) 1).2 := congrArg Prod.snd er52
                have hIw53 : InvM (100 * (k + 1)) w53 := hIw53.mono (by omega)
                refine lv_istore (lv' := [(6, .int r52), (5, .int 1), (0, .ref b), (1, .ref (hX 0)), (2, .ref (hM 0)), (3, .ref ho), (4, .int x4)]) hx hb dL_law_271 hl (by decide) rfl (fun ls hl => ?_)
                refine lv_aload_n hx hb dL_law_273 rfl (lv_at hl 4 rfl) ?_
                have hPc := hP.sub (ws' := wM cI cZ hM w53) [6, 7, 8] rfl
                have hDc := hD.sub (ws' := wM cI cZ hM w53) [6, 7, 8] (by decide) rfl
                have hKc := hK.sub (tys' := tyl cI cZ) [0, 1] rfl
                have hFc := va_free (wc := wM cI cZ hM w53) hD hS hA [6, 7, 8] rfl
                refine va_calli (va_runV (As := []) (rest := []) ⟨hx, hb, hml, hown, hts⟩ (kX1_thrown l D cI cZ hM H51.size w53  (100 * (k + 1)) hIw53 (by omega)) (cwV 0 hts gL_law_X1_thrown rfl rfl rfl (by decide +kernel) ⟨Nat.le_of_ble_eq_true rfl, Nat.le_of_ble_eq_true rfl⟩) ⟨bl_W, va_recv hKc hPc (ci := 1) (q0 := 0) rfl rfl, pr_W hPc hKc hDc⟩ rfl rfl hl.1 rfl (lv_room (Nat.le_of_ble_eq_true rfl)) dL_law_274 ⟨(by show 10 + (k + 1) + 0 ≤ 1042; omega), (by show 1548 + 6 * (k + 1) + 0 ≤ 9788; omega)⟩) hS (fun q _ h9 => hFc q h9) hFc (fun r55 w56 t H54 locs ht hvm hw hB hz1 hk1 hS => ?_)
                obtain ⟨hP1, hK1, hD1⟩ := hB
                rw [ht] at hP1
                obtain ⟨hP, hD⟩ := va_join (wr := (wX cI cZ hX u ++ [(ho, .inl (cJ, 1, .inr (.inl f)))])) (w1 := wM cI cZ hM w56) hP hD [6, 7, 8] [0, 1, 2, 3, 4, 5, 9] rfl rfl (by decide) (by decide) hk1 hFc hP1 hD1
                have hP : va_P D vwCl (wL cI cZ cJ hX hM ho u w56 f) H54 := hP.sub [0, 1, 2, 3, 4, 5, 7, 8, 9, 6] rfl
                have hD : va_D (fun q : Nat => s.heap.size ≤ q) (wL cI cZ cJ hX hM ho u w56 f) := hD.sub [0, 1, 2, 3, 4, 5, 7, 8, 9, 6] (by decide) rfl
                refine W.widen (k := 10 + (k + 1)) (n := 1548 + 6 * (k + 1)) (by omega) (by omega) ?_
                clear hPc hDc hKc hFc hP1 hK1 hD1
                obtain ⟨er55, ew56⟩ := hw
                rw [ew56] at hP hD
                refine lv_iload hx hb dL_law_277 (lv_at hl 1 rfl) ?_
                refine lv_icmp_eq (tgt := 284) hx hb dL_law_279 (by decide) (fun _ => ?_) (fun c9 => absurd (by rw [er55]; show mt w53 = _; rw [ev]; exact hs1) c9)
                refine lv_iload hx hb dL_law_284 (lv_at hl 1 rfl) ?_
                refine lv_if_ne (tgt := 301) hx hb dL_law_286 (by decide) (fun _ => ?_) (fun c9 => absurd c9 (by decide))
                refine lv_goto (tgt := 611) hx hb dL_law_301 (by decide) ?_
                exact NX u w53 f H54 _ _ (by rw [ev]; exact hs3) hI9 hIw53 hP hD hS (lv_sub hl [2, 3, 4, 5, 6] rfl)
          · skip
            by_cases cs3 : sw = 3
            · refine lv_tableIn (off := 265) (tgt := 304) hx hb dL_law_39 (by rw [cs3]; decide) (by rw [cs3]; decide) (by rw [cs3]; rfl) (by decide) ?_
              obtain ⟨hs1, hs2⟩ := sim_engage hR hIX hIM (by omega)
              refine lv_aload_n hx hb dL_law_304 rfl (lv_at hl 1 rfl) ?_
              have hPc := hP.sub (ws' := wX cI cZ hX u) [0, 1, 2, 3, 4, 5] rfl
              have hDc := hD.sub (ws' := wX cI cZ hX u) [0, 1, 2, 3, 4, 5] (by decide) rfl
              have hKc := hK.sub (tys' := tyl cI cZ) [0, 1] rfl
              have hFc := va_free (wc := wX cI cZ hX u) hD hS hA [0, 1, 2, 3, 4, 5] rfl
              refine va_calli (va_runV (As := []) (rest := []) ⟨hx, hb, hml, hown, hts⟩ (kX0_engage l D cI cZ hX H.size u  hIX) (cwV 0 hts gL_law_X0_engage rfl rfl rfl (by decide +kernel) ⟨Nat.le_of_ble_eq_true rfl, Nat.le_of_ble_eq_true rfl⟩) ⟨bl_W, va_recv hKc hPc (ci := 0) (q0 := 0) rfl rfl, pr_W hPc hKc hDc⟩ rfl rfl hl.1 rfl (lv_room (Nat.le_of_ble_eq_true rfl)) dL_law_305 ⟨(by show 10 + k + 0 ≤ 1042; omega), (by show 1548 + 6 * k + 0 ≤ 9788; omega)⟩) hS (fun q _ h9 => hFc q h9) hFc (fun r58 w59 t H57 locs ht hvm hw hB hz1 hk1 hS => ?_)
              obtain ⟨hP1, hK1, hD1⟩ := hB
              rw [ht] at hP1
              obtain ⟨hP, hD⟩ := va_join (wr := (wM cI cZ hM v ++ [(ho, .inl (cJ, 1, .inr (.inl f)))])) (w1 := wX cI cZ hX w59) hP hD [0, 1, 2, 3, 4, 5] [6, 7, 8, 9] rfl rfl (by decide) (by decide) hk1 hFc hP1 hD1
              have hP : va_P D vwCl (wL cI cZ cJ hX hM ho w59 v f) H57 := hP.sub [4, 5, 6, 7, 8, 9, 0, 1, 2, 3] rfl
              have hD : va_D (fun q : Nat => s.heap.size ≤ q) (wL cI cZ cJ hX hM ho w59 v f) := hD.sub [4, 5, 6, 7, 8, 9, 0, 1, 2, 3] (by decide) rfl
              refine W.widen (k := 10 + k) (n := 1548 + 6 * k) (by omega) (by omega) ?_
              clear hPc hDc hKc hFc hP1 hK1 hD1
              obtain ⟨er58, hIw59⟩ := hw
              have eb : r58 = (pX0_engage u).1 := congrArg Prod.fst er58
              have ev : w59 = (pX0_engage u).2 := congrArg Prod.snd er58
              have ex1 := eb
              have ex2 := ev
              clear eb ev
              refine lv_aload_n hx hb dL_law_308 rfl (lv_at hl 2 rfl) ?_
              have hPc := hP.sub (ws' := wM cI cZ hM v) [6, 7, 8] rfl
              have hDc := hD.sub (ws' := wM cI cZ hM v) [6, 7, 8] (by decide) rfl
              have hKc := hK.sub (tys' := tyl cI cZ) [0, 1] rfl
              have hFc := va_free (wc := wM cI cZ hM v) hD hS hA [6, 7, 8] rfl
              refine va_calli (va_runV (As := []) (rest := [.int r58]) ⟨hx, hb, hml, hown, hts⟩ (kX1_engage l D cI cZ hM H57.size v  (100 * k) hIM (by omega)) (cwV 0 hts gL_law_X1_engage rfl rfl rfl (by decide +kernel) ⟨Nat.le_of_ble_eq_true rfl, Nat.le_of_ble_eq_true rfl⟩) ⟨bl_W, va_recv hKc hPc (ci := 1) (q0 := 0) rfl rfl, pr_W hPc hKc hDc⟩ rfl rfl hl.1 rfl (lv_room (Nat.le_of_ble_eq_true rfl)) dL_law_309 ⟨(by show 10 + k + 0 ≤ 1042; omega), (by show 1548 + 6 * k + 0 ≤ 9788; omega)⟩) hS (fun q _ h9 => hFc q h9) hFc (fun r61 w62 t H60 locs ht hvm hw hB hz1 hk1 hS => ?_)
              obtain ⟨hP1, hK1, hD1⟩ := hB
              rw [ht] at hP1
              obtain ⟨hP, hD⟩ := va_join (wr := (wX cI cZ hX w59 ++ [(ho, .inl (cJ, 1, .inr (.inl f)))])) (w1 := wM cI cZ hM w62) hP hD [6, 7, 8] [0, 1, 2, 3, 4, 5, 9] rfl rfl (by decide) (by decide) hk1 hFc hP1 hD1
              have hP : va_P D vwCl (wL cI cZ cJ hX hM ho w59 w62 f) H60 := hP.sub [0, 1, 2, 3, 4, 5, 7, 8, 9, 6] rfl
              have hD : va_D (fun q : Nat => s.heap.size ≤ q) (wL cI cZ cJ hX hM ho w59 w62 f) := hD.sub [0, 1, 2, 3, 4, 5, 7, 8, 9, 6] (by decide) rfl
              refine W.widen (k := 10 + k) (n := 1548 + 6 * k) (by omega) (by omega) ?_
              clear hPc hDc hKc hFc hP1 hK1 hD1
              obtain ⟨er61, hIw62⟩ := hw
              have eb : r61 = (pX1_engage v).1 := congrArg Prod.fst er61
              have ev : w62 = (pX1_engage v).2 := congrArg Prod.snd er61
              have hIw62 : InvM (100 * (k + 1)) w62 := hIw62.mono (by omega)
              refine lv_icmp_eq (tgt := 611) hx hb dL_law_312 (by decide) (fun _ => ?_) (fun c9 => absurd (by rw [ex1, eb]; exact hs1) c9)
              refine W.widen (k := 10 + (k + 1)) (n := 1548 + 6 * (k + 1)) (by omega) (by omega) ?_
              exact NX w59 w62 f H60 _ _ (by rw [ev, ex2]; exact hs2) hIw59 hIw62 hP hD hS (lv_sub hl [0, 1, 2, 3, 4] rfl)
            · skip
              by_cases cs4 : sw = 4
              · refine lv_tableIn (off := 278) (tgt := 317) hx hb dL_law_39 (by rw [cs4]; decide) (by rw [cs4]; decide) (by rw [cs4]; rfl) (by decide) ?_
                obtain ⟨hs1, hs2⟩ := sim_disconnect hR hIX hIM (by omega)
                refine lv_aload_n hx hb dL_law_317 rfl (lv_at hl 1 rfl) ?_
                have hPc := hP.sub (ws' := wX cI cZ hX u) [0, 1, 2, 3, 4, 5] rfl
                have hDc := hD.sub (ws' := wX cI cZ hX u) [0, 1, 2, 3, 4, 5] (by decide) rfl
                have hKc := hK.sub (tys' := tyl cI cZ) [0, 1] rfl
                have hFc := va_free (wc := wX cI cZ hX u) hD hS hA [0, 1, 2, 3, 4, 5] rfl
                refine va_calli (va_runV (As := []) (rest := []) ⟨hx, hb, hml, hown, hts⟩ (kX0_disconnect l D cI cZ hX H.size u  hIX) (cwV 0 hts gL_law_X0_disconnect rfl rfl rfl (by decide +kernel) ⟨Nat.le_of_ble_eq_true rfl, Nat.le_of_ble_eq_true rfl⟩) ⟨bl_W, va_recv hKc hPc (ci := 0) (q0 := 0) rfl rfl, pr_W hPc hKc hDc⟩ rfl rfl hl.1 rfl (lv_room (Nat.le_of_ble_eq_true rfl)) dL_law_318 ⟨(by show 10 + k + 0 ≤ 1042; omega), (by show 1548 + 6 * k + 0 ≤ 9788; omega)⟩) hS (fun q _ h9 => hFc q h9) hFc (fun r64 w65 t H63 locs ht hvm hw hB hz1 hk1 hS => ?_)
                obtain ⟨hP1, hK1, hD1⟩ := hB
                rw [ht] at hP1
                obtain ⟨hP, hD⟩ := va_join (wr := (wM cI cZ hM v ++ [(ho, .inl (cJ, 1, .inr (.inl f)))])) (w1 := wX cI cZ hX w65) hP hD [0, 1, 2, 3, 4, 5] [6, 7, 8, 9] rfl rfl (by decide) (by decide) hk1 hFc hP1 hD1
                have hP : va_P D vwCl (wL cI cZ cJ hX hM ho w65 v f) H63 := hP.sub [4, 5, 6, 7, 8, 9, 0, 1, 2, 3] rfl
                have hD : va_D (fun q : Nat => s.heap.size ≤ q) (wL cI cZ cJ hX hM ho w65 v f) := hD.sub [4, 5, 6, 7, 8, 9, 0, 1, 2, 3] (by decide) rfl
                refine W.widen (k := 10 + k) (n := 1548 + 6 * k) (by omega) (by omega) ?_
                clear hPc hDc hKc hFc hP1 hK1 hD1
                obtain ⟨er64, hIw65⟩ := hw
                have eb : r64 = (pX0_disconnect u).1 := congrArg Prod.fst er64
                have ev : w65 = (pX0_disconnect u).2 := congrArg Prod.snd er64
                have ex1 := eb
                have ex2 := ev
                clear eb ev
                refine lv_aload_n hx hb dL_law_321 rfl (lv_at hl 2 rfl) ?_
                have hPc := hP.sub (ws' := wM cI cZ hM v) [6, 7, 8] rfl
                have hDc := hD.sub (ws' := wM cI cZ hM v) [6, 7, 8] (by decide) rfl
                have hKc := hK.sub (tys' := tyl cI cZ) [0, 1] rfl
                have hFc := va_free (wc := wM cI cZ hM v) hD hS hA [6, 7, 8] rfl
                refine va_calli (va_runV (As := []) (rest := [.int r64]) ⟨hx, hb, hml, hown, hts⟩ (kX1_disconnect l D cI cZ hM H63.size v  (100 * k) hIM (by omega)) (cwV 0 hts gL_law_X1_disconnect rfl rfl rfl (by decide +kernel) ⟨Nat.le_of_ble_eq_true rfl, Nat.le_of_ble_eq_true rfl⟩) ⟨bl_W, va_recv hKc hPc (ci := 1) (q0 := 0) rfl rfl, pr_W hPc hKc hDc⟩ rfl rfl hl.1 rfl (lv_room (Nat.le_of_ble_eq_true rfl)) dL_law_322 ⟨(by show 10 + k + 0 ≤ 1042; omega), (by show 1548 + 6 * k + 0 ≤ 9788; omega)⟩) hS (fun q _ h9 => hFc q h9) hFc (fun r67 w68 t H66 locs ht hvm hw hB hz1 hk1 hS => ?_)
                obtain ⟨hP1, hK1, hD1⟩ := hB
                rw [ht] at hP1
                obtain ⟨hP, hD⟩ := va_join (wr := (wX cI cZ hX w65 ++ [(ho, .inl (cJ, 1, .inr (.inl f)))])) (w1 := wM cI cZ hM w68) hP hD [6, 7, 8] [0, 1, 2, 3, 4, 5, 9] rfl rfl (by decide) (by decide) hk1 hFc hP1 hD1
                have hP : va_P D vwCl (wL cI cZ cJ hX hM ho w65 w68 f) H66 := hP.sub [0, 1, 2, 3, 4, 5, 7, 8, 9, 6] rfl
                have hD : va_D (fun q : Nat => s.heap.size ≤ q) (wL cI cZ cJ hX hM ho w65 w68 f) := hD.sub [0, 1, 2, 3, 4, 5, 7, 8, 9, 6] (by decide) rfl
                refine W.widen (k := 10 + k) (n := 1548 + 6 * k) (by omega) (by omega) ?_
                clear hPc hDc hKc hFc hP1 hK1 hD1
                obtain ⟨er67, hIw68⟩ := hw
                have eb : r67 = (pX1_disconnect v).1 := congrArg Prod.fst er67
                have ev : w68 = (pX1_disconnect v).2 := congrArg Prod.snd er67
                have hIw68 : InvM (100 * (k + 1)) w68 := hIw68.mono (by omega)
                refine lv_icmp_eq (tgt := 611) hx hb dL_law_325 (by decide) (fun _ => ?_) (fun c9 => absurd (by rw [ex1, eb]; exact hs1) c9)
                refine W.widen (k := 10 + (k + 1)) (n := 1548 + 6 * (k + 1)) (by omega) (by omega) ?_
                exact NX w65 w68 f H66 _ _ (by rw [ev, ex2]; exact hs2) hIw65 hIw68 hP hD hS (lv_sub hl [0, 1, 2, 3, 4] rfl)
              · skip
                by_cases cs5 : sw = 5
                · refine lv_tableIn (off := 291) (tgt := 330) hx hb dL_law_39 (by rw [cs5]; decide) (by rw [cs5]; decide) (by rw [cs5]; rfl) (by decide) ?_
                  refine lv_aload_n hx hb dL_law_330 rfl (lv_at hl 1 rfl) ?_
                  refine lv_aload_n hx hb dL_law_331 rfl (lv_at hl 0 rfl) ?_
                  refine lv_iload hx hb dL_law_332 (lv_at hl 4 rfl) ?_
                  refine lv_iconst (v := 1) hx hb dL_law_334 (by decide) ?_
                  refine lv_iadd hx hb dL_law_335 ?_
                  refine va_sld hx hb hX0 hbl hbA hS hv1 dL_law_336 ?_
                  refine lv_aload_n hx hb dL_law_337 rfl (lv_at hl 3 rfl) ?_
                  have hPc := hP.sub (ws' := wO cI cZ cJ hX ho (u, f)) [0, 1, 2, 3, 4, 5, 9] rfl
                  have hDc := hD.sub (ws' := wO cI cZ cJ hX ho (u, f)) [0, 1, 2, 3, 4, 5, 9] (by decide) rfl
                  have hFc := va_free (wc := wO cI cZ cJ hX ho (u, f)) hD hS hA [0, 1, 2, 3, 4, 5, 9] rfl
                  refine va_calli (vx_runSW (As := [.ref (hX 0), .int (xs (Int32.toNatClampNeg (x4 + 1))), .ref ho]) (rest := []) ⟨hx, hb, hml, hown, hts⟩ (kL_step l hlt D cI cZ cJ hX ho sa tL tH H.size u f (xs (Int32.toNatClampNeg (x4 + 1))) hIX) (vx_cwSW 3 hts gL_law_L_step rfl rfl rfl (by decide +kernel) ⟨Nat.le_of_ble_eq_true rfl, Nat.le_of_ble_eq_true rfl⟩) ⟨bl_T, pr_T hPc hK hDc hT hS hFc⟩ rfl rfl hl.1 rfl (lv_room (Nat.le_of_ble_eq_true rfl)) dL_law_338 ⟨(by show 10 + k + 1 ≤ 1042; omega), (by show 1548 + 6 * k + 6 ≤ 9788; omega)⟩) hS (fun q _ h9 => hFc q h9) hFc (fun r70 w9 t H69 locs ht hvm hw hB hz1 hk1 hS => ?_)
                  obtain ⟨u9, f9⟩ := w9
                  obtain ⟨hP1, hK1, hD1⟩ := hB
                  rw [ht] at hP1
                  obtain ⟨hP, hD⟩ := va_join (wr := wM cI cZ hM v) (w1 := wO cI cZ cJ hX ho (u9, f9)) hP hD [0, 1, 2, 3, 4, 5, 9] [6, 7, 8] rfl rfl (by decide) (by decide) hk1 hFc hP1 hD1
                  have hP : va_P D vwCl (wL cI cZ cJ hX hM ho u9 v f9) H69 := hP.sub [3, 4, 5, 6, 7, 8, 0, 1, 2, 9] rfl
                  have hD : va_D (fun q : Nat => s.heap.size ≤ q) (wL cI cZ cJ hX hM ho u9 v f9) := hD.sub [3, 4, 5, 6, 7, 8, 0, 1, 2, 9] (by decide) rfl
                  refine W.widen (k := 10 + (k + 1)) (n := 1548 + 6 * (k + 1)) (by omega) (by omega) ?_
                  clear hPc hDc hFc hP1 hK1 hD1
                  obtain ⟨hI9, hw⟩ := hw
                  rcases hw with ⟨x9, hq, hr9, hf⟩ | ⟨hq, hr9, hwf⟩
                  · have hI9 : InvX u9 := hI9
                    have hr9 : r70 = 0 := hr9
                    subst hr9
                    have hf : f9 = _ := hf
                    have hq : pX0_step u (xs (Int32.toNatClampNeg (x4 + 1))) = some (x9, u9) := hq
                    have hsim := sim_step hR hIX hIM (by omega) (xs (Int32.toNatClampNeg (x4 + 1)))
                    rw [hq] at hsim
                    obtain ⟨hs1, hs2, hs3⟩ := hsim
                    refine lv_istore (lv' := [(5, .int 0), (0, .ref b), (1, .ref (hX 0)), (2, .ref (hM 0)), (3, .ref ho), (4, .int x4)]) hx hb dL_law_341 hl (by decide) rfl (fun ls hl => ?_)
                    refine lv_aload_n hx hb dL_law_343 rfl (lv_at hl 3 rfl) ?_
                    refine lv_aload_n hx hb dL_law_344 rfl (lv_at hl 1 rfl) ?_
                    refine lv_iload hx hb dL_law_345 (lv_at hl 5 rfl) ?_
                    refine lv_iconst (v := 1) hx hb dL_law_347 (by decide) ?_
                    refine lv_iadd hx hb dL_law_348 ?_
                    refine va_sld hx hb hX0 hbl hbA hS hv1 dL_law_349 ?_
                    have hPc := hP.sub (ws' := wM cI cZ hM v) [6, 7, 8] rfl
                    have hDc := hD.sub (ws' := wM cI cZ hM v) [6, 7, 8] (by decide) rfl
                    have hKc := hK.sub (tys' := tyl cI cZ) [0, 1] rfl
                    have hFc := va_free (wc := wM cI cZ hM v) hD hS hA [6, 7, 8] rfl
                    refine va_calli (va_runV (As := [.int (xs (Int32.toNatClampNeg (x4 + 1)))]) (rest := []) ⟨hx, hb, hml, hown, hts⟩ (kX1_step l D cI cZ hM H69.size v (xs (Int32.toNatClampNeg (x4 + 1))) (100 * k) hIM (by omega)) (cwV 1 hts gL_law_X1_step rfl rfl rfl (by decide +kernel) ⟨Nat.le_of_ble_eq_true rfl, Nat.le_of_ble_eq_true rfl⟩) ⟨bl_W, va_recv hKc hPc (ci := 1) (q0 := 0) rfl rfl, pr_W hPc hKc hDc⟩ rfl rfl hl.1 rfl (lv_room (Nat.le_of_ble_eq_true rfl)) dL_law_350 ⟨(by show 10 + (k + 1) + 0 ≤ 1042; omega), (by show 1548 + 6 * (k + 1) + 0 ≤ 9788; omega)⟩) hS (fun q _ h9 => hFc q h9) hFc (fun r72 w73 t H71 locs ht hvm hw hB hz1 hk1 hS => ?_)
                    obtain ⟨hP1, hK1, hD1⟩ := hB
                    rw [ht] at hP1
                    obtain ⟨hP, hD⟩ := va_join (wr := (wX cI cZ hX u9 ++ [(ho, .inl (cJ, 1, .inr (.inl f9)))])) (w1 := wM cI cZ hM w73) hP hD [6, 7, 8] [0, 1, 2, 3, 4, 5, 9] rfl rfl (by decide) (by decide) hk1 hFc hP1 hD1
                    have hP : va_P D vwCl (wL cI cZ cJ hX hM ho u9 w73 f9) H71 := hP.sub [0, 1, 2, 3, 4, 5, 7, 8, 9, 6] rfl
                    have hD : va_D (fun q : Nat => s.heap.size ≤ q) (wL cI cZ cJ hX hM ho u9 w73 f9) := hD.sub [0, 1, 2, 3, 4, 5, 7, 8, 9, 6] (by decide) rfl
                    refine W.widen (k := 10 + (k + 1)) (n := 1548 + 6 * (k + 1)) (by omega) (by omega) ?_
                    clear hPc hDc hKc hFc hP1 hK1 hD1
                    obtain ⟨er72, hIw73⟩ := hw
                    have eb : r72 = (pX1_step v (xs (Int32.toNatClampNeg (x4 + 1)))).1 := congrArg Prod.fst er72
                    have ev : w73 = (pX1_step v (xs (Int32.toNatClampNeg (x4 + 1)))).2 := congrArg Prod.snd er72
                    have hIw73 : InvM (100 * (k + 1)) w73 := hIw73.mono (by omega)
                    refine lv_istore (lv' := [(6, .int r72), (5, .int 0), (0, .ref b), (1, .ref (hX 0)), (2, .ref (hM 0)), (3, .ref ho), (4, .int x4)]) hx hb dL_law_353 hl (by decide) rfl (fun ls hl => ?_)
                    refine lv_aload_n hx hb dL_law_355 rfl (lv_at hl 4 rfl) ?_
                    have hPc := hP.sub (ws' := wM cI cZ hM w73) [6, 7, 8] rfl
                    have hDc := hD.sub (ws' := wM cI cZ hM w73) [6, 7, 8] (by decide) rfl
                    have hKc := hK.sub (tys' := tyl cI cZ) [0, 1] rfl
                    have hFc := va_free (wc := wM cI cZ hM w73) hD hS hA [6, 7, 8] rfl
                    refine va_calli (va_runV (As := []) (rest := []) ⟨hx, hb, hml, hown, hts⟩ (kX1_thrown l D cI cZ hM H71.size w73  (100 * (k + 1)) hIw73 (by omega)) (cwV 0 hts gL_law_X1_thrown rfl rfl rfl (by decide +kernel) ⟨Nat.le_of_ble_eq_true rfl, Nat.le_of_ble_eq_true rfl⟩) ⟨bl_W, va_recv hKc hPc (ci := 1) (q0 := 0) rfl rfl, pr_W hPc hKc hDc⟩ rfl rfl hl.1 rfl (lv_room (Nat.le_of_ble_eq_true rfl)) dL_law_356 ⟨(by show 10 + (k + 1) + 0 ≤ 1042; omega), (by show 1548 + 6 * (k + 1) + 0 ≤ 9788; omega)⟩) hS (fun q _ h9 => hFc q h9) hFc (fun r75 w76 t H74 locs ht hvm hw hB hz1 hk1 hS => ?_)
                    obtain ⟨hP1, hK1, hD1⟩ := hB
                    rw [ht] at hP1
                    obtain ⟨hP, hD⟩ := va_join (wr := (wX cI cZ hX u9 ++ [(ho, .inl (cJ, 1, .inr (.inl f9)))])) (w1 := wM cI cZ hM w76) hP hD [6, 7, 8] [0, 1, 2, 3, 4, 5, 9] rfl rfl (by decide) (by decide) hk1 hFc hP1 hD1
                    have hP : va_P D vwCl (wL cI cZ cJ hX hM ho u9 w76 f9) H74 := hP.sub [0, 1, 2, 3, 4, 5, 7, 8, 9, 6] rfl
                    have hD : va_D (fun q : Nat => s.heap.size ≤ q) (wL cI cZ cJ hX hM ho u9 w76 f9) := hD.sub [0, 1, 2, 3, 4, 5, 7, 8, 9, 6] (by decide) rfl
                    refine W.widen (k := 10 + (k + 1)) (n := 1548 + 6 * (k + 1)) (by omega) (by omega) ?_
                    clear hPc hDc hKc hFc hP1 hK1 hD1
                    obtain ⟨er75, ew76⟩ := hw
                    rw [ew76] at hP hD
                    refine lv_iload hx hb dL_law_359 (lv_at hl 1 rfl) ?_
                    refine lv_icmp_eq (tgt := 366) hx hb dL_law_361 (by decide) (fun _ => ?_) (fun c9 => absurd (by rw [er75]; show mt w73 = _; rw [ev]; exact hs1) c9)
                    refine lv_iload hx hb dL_law_366 (lv_at hl 1 rfl) ?_
                    refine lv_if_ne (tgt := 383) hx hb dL_law_368 (by decide) (fun c9 => absurd rfl c9) (fun _ => ?_)
                    refine lv_aload_n hx hb dL_law_371 rfl (lv_at hl 5 rfl) ?_
                    refine lv_iconst (v := 0) hx hb dL_law_372 (by decide) ?_
                    refine va_lald hx hb hK hP 9 2 rfl rfl (vi_c (by decide)) dL_law_373 ?_
                    refine lv_iload hx hb dL_law_374 (lv_at hl 0 rfl) ?_
                    refine lv_i2l (v := (Int32.toInt64 r72)) hx hb dL_law_376 rfl ?_
                    refine W.lcmp hx hb dL_law_377 ?_
                    rw [show (f9 (Int32.toNatClampNeg 0)) = (Int32.toInt64 r72) from (by rw [hf, eb, hs2]; rfl), lc_cmp]
                    refine lv_if_eq (tgt := 383) hx hb dL_law_378 (by decide) (fun _ => ?_) (fun c9 => absurd rfl c9)
                    refine lv_goto (tgt := 611) hx hb dL_law_383 (by decide) ?_
                    exact NX u9 w73 f9 H74 _ _ (by rw [ev]; exact hs3) hI9 hIw73 hP hD hS (lv_sub hl [2, 3, 4, 5, 6] rfl)
                  · have hI9 : InvX u9 := hI9
                    have hr9 : r70 = 1 := hr9
                    subst hr9
                    have hwf : (u9, f9) = (u, f) := hwf
                    obtain ⟨e8, e9⟩ := Prod.mk.inj hwf
                    rw [e8] at hP hD hI9
                    rw [e9] at hP hD
                    clear e8 e9 hwf
                    have hsim := sim_step hR hIX hIM (by omega) (xs (Int32.toNatClampNeg (x4 + 1)))
                    rw [hq] at hsim
                    obtain ⟨hs1, hs3⟩ := hsim
                    refine lv_istore (lv' := [(5, .int 1), (0, .ref b), (1, .ref (hX 0)), (2, .ref (hM 0)), (3, .ref ho), (4, .int x4)]) hx hb dL_law_341 hl (by decide) rfl (fun ls hl => ?_)
                    refine lv_aload_n hx hb dL_law_343 rfl (lv_at hl 3 rfl) ?_
                    refine lv_aload_n hx hb dL_law_344 rfl (lv_at hl 1 rfl) ?_
                    refine lv_iload hx hb dL_law_345 (lv_at hl 5 rfl) ?_
                    refine lv_iconst (v := 1) hx hb dL_law_347 (by decide) ?_
                    refine lv_iadd hx hb dL_law_348 ?_
                    refine va_sld hx hb hX0 hbl hbA hS hv1 dL_law_349 ?_
                    have hPc := hP.sub (ws' := wM cI cZ hM v) [6, 7, 8] rfl
                    have hDc := hD.sub (ws' := wM cI cZ hM v) [6, 7, 8] (by decide) rfl
                    have hKc := hK.sub (tys' := tyl cI cZ) [0, 1] rfl
                    have hFc := va_free (wc := wM cI cZ hM v) hD hS hA [6, 7, 8] rfl
                    refine va_calli (va_runV (As := [.int (xs (Int32.toNatClampNeg (x4 + 1)))]) (rest := []) ⟨hx, hb, hml, hown, hts⟩ (kX1_step l D cI cZ hM H69.size v (xs (Int32.toNatClampNeg (x4 + 1))) (100 * k) hIM (by omega)) (cwV 1 hts gL_law_X1_step rfl rfl rfl (by decide +kernel) ⟨Nat.le_of_ble_eq_true rfl, Nat.le_of_ble_eq_true rfl⟩) ⟨bl_W, va_recv hKc hPc (ci := 1) (q0 := 0) rfl rfl, pr_W hPc hKc hDc⟩ rfl rfl hl.1 rfl (lv_room (Nat.le_of_ble_eq_true rfl)) dL_law_350 ⟨(by show 10 + (k + 1) + 0 ≤ 1042; omega), (by show 1548 + 6 * (k + 1) + 0 ≤ 9788; omega)⟩) hS (fun q _ h9 => hFc q h9) hFc (fun r78 w79 t H77 locs ht hvm hw hB hz1 hk1 hS => ?_)
                    obtain ⟨hP1, hK1, hD1⟩ := hB
                    rw [ht] at hP1
                    obtain ⟨hP, hD⟩ := va_join (wr := (wX cI cZ hX u ++ [(ho, .inl (cJ, 1, .inr (.inl f)))])) (w1 := wM cI cZ hM w79) hP hD [6, 7, 8] [0, 1, 2, 3, 4, 5, 9] rfl rfl (by decide) (by decide) hk1 hFc hP1 hD1
                    have hP : va_P D vwCl (wL cI cZ cJ hX hM ho u w79 f) H77 := hP.sub [0, 1, 2, 3, 4, 5, 7, 8, 9, 6] rfl
                    have hD : va_D (fun q : Nat => s.heap.size ≤ q) (wL cI cZ cJ hX hM ho u w79 f) := hD.sub [0, 1, 2, 3, 4, 5, 7, 8, 9, 6] (by decide) rfl
                    refine W.widen (k := 10 + (k + 1)) (n := 1548 + 6 * (k + 1)) (by omega) (by omega) ?_
                    clear hPc hDc hKc hFc hP1 hK1 hD1
                    obtain ⟨er78, hIw79⟩ := hw
                    have eb : r78 = (pX1_step v (xs (Int32.toNatClampNeg (x4 + 1)))).1 := congrArg Prod.fst er78
                    have ev : w79 = (pX1_step v (xs (Int32.toNatClampNeg (x4 + 1)))).2 := congrArg Prod.snd er78
                    have hIw79 : InvM (100 * (k + 1)) w79 := hIw79.mono (by omega)
                    refine lv_istore (lv' := [(6, .int r78), (5, .int 1), (0, .ref b), (1, .ref (hX 0)), (2, .ref (hM 0)), (3, .ref ho), (4, .int x4)]) hx hb dL_law_353 hl (by decide) rfl (fun ls hl => ?_)
                    refine lv_aload_n hx hb dL_law_355 rfl (lv_at hl 4 rfl) ?_
                    have hPc := hP.sub (ws' := wM cI cZ hM w79) [6, 7, 8] rfl
                    have hDc := hD.sub (ws' := wM cI cZ hM w79) [6, 7, 8] (by decide) rfl
                    have hKc := hK.sub (tys' := tyl cI cZ) [0, 1] rfl
                    have hFc := va_free (wc := wM cI cZ hM w79) hD hS hA [6, 7, 8] rfl
                    refine va_calli (va_runV (As := []) (rest := []) ⟨hx, hb, hml, hown, hts⟩ (kX1_thrown l D cI cZ hM H77.size w79  (100 * (k + 1)) hIw79 (by omega)) (cwV 0 hts gL_law_X1_thrown rfl rfl rfl (by decide +kernel) ⟨Nat.le_of_ble_eq_true rfl, Nat.le_of_ble_eq_true rfl⟩) ⟨bl_W, va_recv hKc hPc (ci := 1) (q0 := 0) rfl rfl, pr_W hPc hKc hDc⟩ rfl rfl hl.1 rfl (lv_room (Nat.le_of_ble_eq_true rfl)) dL_law_356 ⟨(by show 10 + (k + 1) + 0 ≤ 1042; omega), (by show 1548 + 6 * (k + 1) + 0 ≤ 9788; omega)⟩) hS (fun q _ h9 => hFc q h9) hFc (fun r81 w82 t H80 locs ht hvm hw hB hz1 hk1 hS => ?_)
                    obtain ⟨hP1, hK1, hD1⟩ := hB
                    rw [ht] at hP1
                    obtain ⟨hP, hD⟩ := va_join (wr := (wX cI cZ hX u ++ [(ho, .inl (cJ, 1, .inr (.inl f)))])) (w1 := wM cI cZ hM w82) hP hD [6, 7, 8] [0, 1, 2, 3, 4, 5, 9] rfl rfl (by decide) (by decide) hk1 hFc hP1 hD1
                    have hP : va_P D vwCl (wL cI cZ cJ hX hM ho u w82 f) H80 := hP.sub [0, 1, 2, 3, 4, 5, 7, 8, 9, 6] rfl
                    have hD : va_D (fun q : Nat => s.heap.size ≤ q) (wL cI cZ cJ hX hM ho u w82 f) := hD.sub [0, 1, 2, 3, 4, 5, 7, 8, 9, 6] (by decide) rfl
                    refine W.widen (k := 10 + (k + 1)) (n := 1548 + 6 * (k + 1)) (by omega) (by omega) ?_
                    clear hPc hDc hKc hFc hP1 hK1 hD1
                    obtain ⟨er81, ew82⟩ := hw
                    rw [ew82] at hP hD
                    refine lv_iload hx hb dL_law_359 (lv_at hl 1 rfl) ?_
                    refine lv_icmp_eq (tgt := 366) hx hb dL_law_361 (by decide) (fun _ => ?_) (fun c9 => absurd (by rw [er81]; show mt w79 = _; rw [ev]; exact hs1) c9)
                    refine lv_iload hx hb dL_law_366 (lv_at hl 1 rfl) ?_
                    refine lv_if_ne (tgt := 383) hx hb dL_law_368 (by decide) (fun _ => ?_) (fun c9 => absurd c9 (by decide))
                    refine lv_goto (tgt := 611) hx hb dL_law_383 (by decide) ?_
                    exact NX u w79 f H80 _ _ (by rw [ev]; exact hs3) hI9 hIw79 hP hD hS (lv_sub hl [2, 3, 4, 5, 6] rfl)
                · skip
                  by_cases cs6 : sw = 6
                  · refine lv_tableIn (off := 347) (tgt := 386) hx hb dL_law_39 (by rw [cs6]; decide) (by rw [cs6]; decide) (by rw [cs6]; rfl) (by decide) ?_
                    refine lv_aload_n hx hb dL_law_386 rfl (lv_at hl 1 rfl) ?_
                    refine lv_aload_n hx hb dL_law_387 rfl (lv_at hl 0 rfl) ?_
                    refine lv_iload hx hb dL_law_388 (lv_at hl 4 rfl) ?_
                    refine lv_iconst (v := 1) hx hb dL_law_390 (by decide) ?_
                    refine lv_iadd hx hb dL_law_391 ?_
                    refine va_sld hx hb hX0 hbl hbA hS hv1 dL_law_392 ?_
                    refine lv_aload_n hx hb dL_law_393 rfl (lv_at hl 3 rfl) ?_
                    have hPc := hP.sub (ws' := wO cI cZ cJ hX ho (u, f)) [0, 1, 2, 3, 4, 5, 9] rfl
                    have hDc := hD.sub (ws' := wO cI cZ cJ hX ho (u, f)) [0, 1, 2, 3, 4, 5, 9] (by decide) rfl
                    have hFc := va_free (wc := wO cI cZ cJ hX ho (u, f)) hD hS hA [0, 1, 2, 3, 4, 5, 9] rfl
                    refine va_calli (vx_runSW (As := [.ref (hX 0), .int (xs (Int32.toNatClampNeg (x4 + 1))), .ref ho]) (rest := []) ⟨hx, hb, hml, hown, hts⟩ (kL_mode l hlt D cI cZ cJ hX ho sa tL tH H.size u f (xs (Int32.toNatClampNeg (x4 + 1))) hIX) (vx_cwSW 3 hts gL_law_L_mode rfl rfl rfl (by decide +kernel) ⟨Nat.le_of_ble_eq_true rfl, Nat.le_of_ble_eq_true rfl⟩) ⟨bl_T, pr_T hPc hK hDc hT hS hFc⟩ rfl rfl hl.1 rfl (lv_room (Nat.le_of_ble_eq_true rfl)) dL_law_394 ⟨(by show 10 + k + 1 ≤ 1042; omega), (by show 1548 + 6 * k + 6 ≤ 9788; omega)⟩) hS (fun q _ h9 => hFc q h9) hFc (fun r84 w9 t H83 locs ht hvm hw hB hz1 hk1 hS => ?_)
                    obtain ⟨u9, f9⟩ := w9
                    obtain ⟨hP1, hK1, hD1⟩ := hB
                    rw [ht] at hP1
                    obtain ⟨hP, hD⟩ := va_join (wr := wM cI cZ hM v) (w1 := wO cI cZ cJ hX ho (u9, f9)) hP hD [0, 1, 2, 3, 4, 5, 9] [6, 7, 8] rfl rfl (by decide) (by decide) hk1 hFc hP1 hD1
                    have hP : va_P D vwCl (wL cI cZ cJ hX hM ho u9 v f9) H83 := hP.sub [3, 4, 5, 6, 7, 8, 0, 1, 2, 9] rfl
                    have hD : va_D (fun q : Nat => s.heap.size ≤ q) (wL cI cZ cJ hX hM ho u9 v f9) := hD.sub [3, 4, 5, 6, 7, 8, 0, 1, 2, 9] (by decide) rfl
                    refine W.widen (k := 10 + (k + 1)) (n := 1548 + 6 * (k + 1)) (by omega) (by omega) ?_
                    clear hPc hDc hFc hP1 hK1 hD1
                    obtain ⟨hI9, hw⟩ := hw
                    rcases hw with ⟨x9, hq, hr9, hf⟩ | ⟨hq, hr9, hwf⟩
                    · have hI9 : InvX u9 := hI9
                      have hr9 : r84 = 0 := hr9
                      subst hr9
                      have hf : f9 = _ := hf
                      have hq : pX0_mode u (xs (Int32.toNatClampNeg (x4 + 1))) = some (x9, u9) := hq
                      have hsim := sim_mode hR hIX hIM (by omega) (xs (Int32.toNatClampNeg (x4 + 1)))
                      rw [hq] at hsim
                      obtain ⟨hs1, hs2, hs3⟩ := hsim
                      refine lv_istore (lv' := [(5, .int 0), (0, .ref b), (1, .ref (hX 0)), (2, .ref (hM 0)), (3, .ref ho), (4, .int x4)]) hx hb dL_law_397 hl (by decide) rfl (fun ls hl => ?_)
                      refine lv_aload_n hx hb dL_law_399 rfl (lv_at hl 3 rfl) ?_
                      refine lv_aload_n hx hb dL_law_400 rfl (lv_at hl 1 rfl) ?_
                      refine lv_iload hx hb dL_law_401 (lv_at hl 5 rfl) ?_
                      refine lv_iconst (v := 1) hx hb dL_law_403 (by decide) ?_
                      refine lv_iadd hx hb dL_law_404 ?_
                      refine va_sld hx hb hX0 hbl hbA hS hv1 dL_law_405 ?_
                      have hPc := hP.sub (ws' := wM cI cZ hM v) [6, 7, 8] rfl
                      have hDc := hD.sub (ws' := wM cI cZ hM v) [6, 7, 8] (by decide) rfl
                      have hKc := hK.sub (tys' := tyl cI cZ) [0, 1] rfl
                      have hFc := va_free (wc := wM cI cZ hM v) hD hS hA [6, 7, 8] rfl
                      refine va_calli (va_runV (As := [.int (xs (Int32.toNatClampNeg (x4 + 1)))]) (rest := []) ⟨hx, hb, hml, hown, hts⟩ (kX1_mode l D cI cZ hM H83.size v (xs (Int32.toNatClampNeg (x4 + 1))) (100 * k) hIM (by omega)) (cwV 1 hts gL_law_X1_mode rfl rfl rfl (by decide +kernel) ⟨Nat.le_of_ble_eq_true rfl, Nat.le_of_ble_eq_true rfl⟩) ⟨bl_W, va_recv hKc hPc (ci := 1) (q0 := 0) rfl rfl, pr_W hPc hKc hDc⟩ rfl rfl hl.1 rfl (lv_room (Nat.le_of_ble_eq_true rfl)) dL_law_406 ⟨(by show 10 + (k + 1) + 0 ≤ 1042; omega), (by show 1548 + 6 * (k + 1) + 0 ≤ 9788; omega)⟩) hS (fun q _ h9 => hFc q h9) hFc (fun r86 w87 t H85 locs ht hvm hw hB hz1 hk1 hS => ?_)
                      obtain ⟨hP1, hK1, hD1⟩ := hB
                      rw [ht] at hP1
                      obtain ⟨hP, hD⟩ := va_join (wr := (wX cI cZ hX u9 ++ [(ho, .inl (cJ, 1, .inr (.inl f9)))])) (w1 := wM cI cZ hM w87) hP hD [6, 7, 8] [0, 1, 2, 3, 4, 5, 9] rfl rfl (by decide) (by decide) hk1 hFc hP1 hD1
                      have hP : va_P D vwCl (wL cI cZ cJ hX hM ho u9 w87 f9) H85 := hP.sub [0, 1, 2, 3, 4, 5, 7, 8, 9, 6] rfl
                      have hD : va_D (fun q : Nat => s.heap.size ≤ q) (wL cI cZ cJ hX hM ho u9 w87 f9) := hD.sub [0, 1, 2, 3, 4, 5, 7, 8, 9, 6] (by decide) rfl
                      refine W.widen (k := 10 + (k + 1)) (n := 1548 + 6 * (k + 1)) (by omega) (by omega) ?_
                      clear hPc hDc hKc hFc hP1 hK1 hD1
                      obtain ⟨er86, hIw87⟩ := hw
                      have eb : r86 = (pX1_mode v (xs (Int32.toNatClampNeg (x4 + 1)))).1 := congrArg Prod.fst er86
                      have ev : w87 = (pX1_mode v (xs (Int32.toNatClampNeg (x4 + 1)))).2 := congrArg Prod.snd er86
                      have hIw87 : InvM (100 * (k + 1)) w87 := hIw87.mono (by omega)
                      refine lv_istore (lv' := [(6, .int r86), (5, .int 0), (0, .ref b), (1, .ref (hX 0)), (2, .ref (hM 0)), (3, .ref ho), (4, .int x4)]) hx hb dL_law_409 hl (by decide) rfl (fun ls hl => ?_)
                      refine lv_aload_n hx hb dL_law_411 rfl (lv_at hl 4 rfl) ?_
                      have hPc := hP.sub (ws' := wM cI cZ hM w87) [6, 7, 8] rfl
                      have hDc := hD.sub (ws' := wM cI cZ hM w87) [6, 7, 8] (by decide) rfl
                      have hKc := hK.sub (tys' := tyl cI cZ) [0, 1] rfl
                      have hFc := va_free (wc := wM cI cZ hM w87) hD hS hA [6, 7, 8] rfl
                      refine va_calli (va_runV (As := []) (rest := []) ⟨hx, hb, hml, hown, hts⟩ (kX1_thrown l D cI cZ hM H85.size w87  (100 * (k + 1)) hIw87 (by omega)) (cwV 0 hts gL_law_X1_thrown rfl rfl rfl (by decide +kernel) ⟨Nat.le_of_ble_eq_true rfl, Nat.le_of_ble_eq_true rfl⟩) ⟨bl_W, va_recv hKc hPc (ci := 1) (q0 := 0) rfl rfl, pr_W hPc hKc hDc⟩ rfl rfl hl.1 rfl (lv_room (Nat.le_of_ble_eq_true rfl)) dL_law_412 ⟨(by show 10 + (k + 1) + 0 ≤ 1042; omega), (by show 1548 + 6 * (k + 1) + 0 ≤ 9788; omega)⟩) hS (fun q _ h9 => hFc q h9) hFc (fun r89 w90 t H88 locs ht hvm hw hB hz1 hk1 hS => ?_)
                      obtain ⟨hP1, hK1, hD1⟩ := hB
                      rw [ht] at hP1
                      obtain ⟨hP, hD⟩ := va_join (wr := (wX cI cZ hX u9 ++ [(ho, .inl (cJ, 1, .inr (.inl f9)))])) (w1 := wM cI cZ hM w90) hP hD [6, 7, 8] [0, 1, 2, 3, 4, 5, 9] rfl rfl (by decide) (by decide) hk1 hFc hP1 hD1
                      have hP : va_P D vwCl (wL cI cZ cJ hX hM ho u9 w90 f9) H88 := hP.sub [0, 1, 2, 3, 4, 5, 7, 8, 9, 6] rfl
                      have hD : va_D (fun q : Nat => s.heap.size ≤ q) (wL cI cZ cJ hX hM ho u9 w90 f9) := hD.sub [0, 1, 2, 3, 4, 5, 7, 8, 9, 6] (by decide) rfl
                      refine W.widen (k := 10 + (k + 1)) (n := 1548 + 6 * (k + 1)) (by omega) (by omega) ?_
                      clear hPc hDc hKc hFc hP1 hK1 hD1
                      obtain ⟨er89, ew90⟩ := hw
                      rw [ew90] at hP hD
                      refine lv_iload hx hb dL_law_415 (lv_at hl 1 rfl) ?_
                      refine lv_icmp_eq (tgt := 422) hx hb dL_law_417 (by decide) (fun _ => ?_) (fun c9 => absurd (by rw [er89]; show mt w87 = _; rw [ev]; exact hs1) c9)
                      refine lv_iload hx hb dL_law_422 (lv_at hl 1 rfl) ?_
                      refine lv_if_ne (tgt := 439) hx hb dL_law_424 (by decide) (fun c9 => absurd rfl c9) (fun _ => ?_)
                      refine lv_aload_n hx hb dL_law_427 rfl (lv_at hl 5 rfl) ?_
                      refine lv_iconst (v := 0) hx hb dL_law_428 (by decide) ?_
                      refine va_lald hx hb hK hP 9 2 rfl rfl (vi_c (by decide)) dL_law_429 ?_
                      refine lv_iload hx hb dL_law_430 (lv_at hl 0 rfl) ?_
                      refine lv_i2l (v := (Int32.toInt64 r86)) hx hb dL_law_432 rfl ?_
                      refine W.lcmp hx hb dL_law_433 ?_
                      rw [show (f9 (Int32.toNatClampNeg 0)) = (Int32.toInt64 r86) from (by rw [hf, eb, hs2]; rfl), lc_cmp]
                      refine lv_if_eq (tgt := 439) hx hb dL_law_434 (by decide) (fun _ => ?_) (fun c9 => absurd rfl c9)
                      refine lv_goto (tgt := 611) hx hb dL_law_439 (by decide) ?_
                      exact NX u9 w87 f9 H88 _ _ (by rw [ev]; exact hs3) hI9 hIw87 hP hD hS (lv_sub hl [2, 3, 4, 5, 6] rfl)
                    · have hI9 : InvX u9 := hI9
                      have hr9 : r84 = 1 := hr9
                      subst hr9
                      have hwf : (u9, f9) = (u, f) := hwf
                      obtain ⟨e8, e9⟩ := Prod.mk.inj hwf
                      rw [e8] at hP hD hI9
                      rw [e9] at hP hD
                      clear e8 e9 hwf
                      have hsim := sim_mode hR hIX hIM (by omega) (xs (Int32.toNatClampNeg (x4 + 1)))
                      rw [hq] at hsim
                      obtain ⟨hs1, hs3⟩ := hsim
                      refine lv_istore (lv' := [(5, .int 1), (0, .ref b), (1, .ref (hX 0)), (2, .ref (hM 0)), (3, .ref ho), (4, .int x4)]) hx hb dL_law_397 hl (by decide) rfl (fun ls hl => ?_)
                      refine lv_aload_n hx hb dL_law_399 rfl (lv_at hl 3 rfl) ?_
                      refine lv_aload_n hx hb dL_law_400 rfl (lv_at hl 1 rfl) ?_
                      refine lv_iload hx hb dL_law_401 (lv_at hl 5 rfl) ?_
                      refine lv_iconst (v := 1) hx hb dL_law_403 (by decide) ?_
                      refine lv_iadd hx hb dL_law_404 ?_
                      refine va_sld hx hb hX0 hbl hbA hS hv1 dL_law_405 ?_
                      have hPc := hP.sub (ws' := wM cI cZ hM v) [6, 7, 8] rfl
                      have hDc := hD.sub (ws' := wM cI cZ hM v) [6, 7, 8] (by decide) rfl
                      have hKc := hK.sub (tys' := tyl cI cZ) [0, 1] rfl
                      have hFc := va_free (wc := wM cI cZ hM v) hD hS hA [6, 7, 8] rfl
                      refine va_calli (va_runV (As := [.int (xs (Int32.toNatClampNeg (x4 + 1)))]) (rest := []) ⟨hx, hb, hml, hown, hts⟩ (kX1_mode l D cI cZ hM H83.size v (xs (Int32.toNatClampNeg (x4 + 1))) (100 * k) hIM (by omega)) (cwV 1 hts gL_law_X1_mode rfl rfl rfl (by decide +kernel) ⟨Nat.le_of_ble_eq_true rfl, Nat.le_of_ble_eq_true rfl⟩) ⟨bl_W, va_recv hKc hPc (ci := 1) (q0 := 0) rfl rfl, pr_W hPc hKc hDc⟩ rfl rfl hl.1 rfl (lv_room (Nat.le_of_ble_eq_true rfl)) dL_law_406 ⟨(by show 10 + (k + 1) + 0 ≤ 1042; omega), (by show 1548 + 6 * (k + 1) + 0 ≤ 9788; omega)⟩) hS (fun q _ h9 => hFc q h9) hFc (fun r92 w93 t H91 locs ht hvm hw hB hz1 hk1 hS => ?_)
                      obtain ⟨hP1, hK1, hD1⟩ := hB
                      rw [ht] at hP1
                      obtain ⟨hP, hD⟩ := va_join (wr := (wX cI cZ hX u ++ [(ho, .inl (cJ, 1, .inr (.inl f)))])) (w1 := wM cI cZ hM w93) hP hD [6, 7, 8] [0, 1, 2, 3, 4, 5, 9] rfl rfl (by decide) (by decide) hk1 hFc hP1 hD1
                      have hP : va_P D vwCl (wL cI cZ cJ hX hM ho u w93 f) H91 := hP.sub [0, 1, 2, 3, 4, 5, 7, 8, 9, 6] rfl
                      have hD : va_D (fun q : Nat => s.heap.size ≤ q) (wL cI cZ cJ hX hM ho u w93 f) := hD.sub [0, 1, 2, 3, 4, 5, 7, 8, 9, 6] (by decide) rfl
                      refine W.widen (k := 10 + (k + 1)) (n := 1548 + 6 * (k + 1)) (by omega) (by omega) ?_
                      clear hPc hDc hKc hFc hP1 hK1 hD1
                      obtain ⟨er92, hIw93⟩ := hw
                      have eb : r92 = (pX1_mode v (xs (Int32.toNatClampNeg (x4 + 1)))).1 := congrArg Prod.fst er92
                      have ev : w93 = (pX1_mode v (xs (Int32.toNatClampNeg (x4 + 1)))).2 := congrArg Prod.snd er92
                      have hIw93 : InvM (100 * (k + 1)) w93 := hIw93.mono (by omega)
                      refine lv_istore (lv' := [(6, .int r92), (5, .int 1), (0, .ref b), (1, .ref (hX 0)), (2, .ref (hM 0)), (3, .ref ho), (4, .int x4)]) hx hb dL_law_409 hl (by decide) rfl (fun ls hl => ?_)
                      refine lv_aload_n hx hb dL_law_411 rfl (lv_at hl 4 rfl) ?_
                      have hPc := hP.sub (ws' := wM cI cZ hM w93) [6, 7, 8] rfl
                      have hDc := hD.sub (ws' := wM cI cZ hM w93) [6, 7, 8] (by decide) rfl
                      have hKc := hK.sub (tys' := tyl cI cZ) [0, 1] rfl
                      have hFc := va_free (wc := wM cI cZ hM w93) hD hS hA [6, 7, 8] rfl
                      refine va_calli (va_runV (As := []) (rest := []) ⟨hx, hb, hml, hown, hts⟩ (kX1_thrown l D cI cZ hM H91.size w93  (100 * (k + 1)) hIw93 (by omega)) (cwV 0 hts gL_law_X1_thrown rfl rfl rfl (by decide +kernel) ⟨Nat.le_of_ble_eq_true rfl, Nat.le_of_ble_eq_true rfl⟩) ⟨bl_W, va_recv hKc hPc (ci := 1) (q0 := 0) rfl rfl, pr_W hPc hKc hDc⟩ rfl rfl hl.1 rfl (lv_room (Nat.le_of_ble_eq_true rfl)) dL_law_412 ⟨(by show 10 + (k + 1) + 0 ≤ 1042; omega), (by show 1548 + 6 * (k + 1) + 0 ≤ 9788; omega)⟩) hS (fun q _ h9 => hFc q h9) hFc (fun r95 w96 t H94 locs ht hvm hw hB hz1 hk1 hS => ?_)
                      obtain ⟨hP1, hK1, hD1⟩ := hB
                      rw [ht] at hP1
                      obtain ⟨hP, hD⟩ := va_join (wr := (wX cI cZ hX u ++ [(ho, .inl (cJ, 1, .inr (.inl f)))])) (w1 := wM cI cZ hM w96) hP hD [6, 7, 8] [0, 1, 2, 3, 4, 5, 9] rfl rfl (by decide) (by decide) hk1 hFc hP1 hD1
                      have hP : va_P D vwCl (wL cI cZ cJ hX hM ho u w96 f) H94 := hP.sub [0, 1, 2, 3, 4, 5, 7, 8, 9, 6] rfl
                      have hD : va_D (fun q : Nat => s.heap.size ≤ q) (wL cI cZ cJ hX hM ho u w96 f) := hD.sub [0, 1, 2, 3, 4, 5, 7, 8, 9, 6] (by decide) rfl
                      refine W.widen (k := 10 + (k + 1)) (n := 1548 + 6 * (k + 1)) (by omega) (by omega) ?_
                      clear hPc hDc hKc hFc hP1 hK1 hD1
                      obtain ⟨er95, ew96⟩ := hw
                      rw [ew96] at hP hD
                      refine lv_iload hx hb dL_law_415 (lv_at hl 1 rfl) ?_
                      refine lv_icmp_eq (tgt := 422) hx hb dL_law_417 (by decide) (fun _ => ?_) (fun c9 => absurd (by rw [er95]; show mt w93 = _; rw [ev]; exact hs1) c9)
                      refine lv_iload hx hb dL_law_422 (lv_at hl 1 rfl) ?_
                      refine lv_if_ne (tgt := 439) hx hb dL_law_424 (by decide) (fun _ => ?_) (fun c9 => absurd c9 (by decide))
                      refine lv_goto (tgt := 611) hx hb dL_law_439 (by decide) ?_
                      exact NX u w93 f H94 _ _ (by rw [ev]; exact hs3) hI9 hIw93 hP hD hS (lv_sub hl [2, 3, 4, 5, 6] rfl)
                  · skip
                    by_cases cs7 : sw = 7
                    · refine lv_tableIn (off := 403) (tgt := 442) hx hb dL_law_39 (by rw [cs7]; decide) (by rw [cs7]; decide) (by rw [cs7]; rfl) (by decide) ?_
                      refine lv_aload_n hx hb dL_law_442 rfl (lv_at hl 1 rfl) ?_
                      refine lv_aload_n hx hb dL_law_443 rfl (lv_at hl 0 rfl) ?_
                      refine lv_iload hx hb dL_law_444 (lv_at hl 4 rfl) ?_
                      refine lv_iconst (v := 1) hx hb dL_law_446 (by decide) ?_
                      refine lv_iadd hx hb dL_law_447 ?_
                      refine va_sld hx hb hX0 hbl hbA hS hv1 dL_law_448 ?_
                      refine lv_aload_n hx hb dL_law_449 rfl (lv_at hl 3 rfl) ?_
                      have hPc := hP.sub (ws' := wO cI cZ cJ hX ho (u, f)) [0, 1, 2, 3, 4, 5, 9] rfl
                      have hDc := hD.sub (ws' := wO cI cZ cJ hX ho (u, f)) [0, 1, 2, 3, 4, 5, 9] (by decide) rfl
                      have hFc := va_free (wc := wO cI cZ cJ hX ho (u, f)) hD hS hA [0, 1, 2, 3, 4, 5, 9] rfl
                      refine va_calli (vx_runSW (As := [.ref (hX 0), .int (xs (Int32.toNatClampNeg (x4 + 1))), .ref ho]) (rest := []) ⟨hx, hb, hml, hown, hts⟩ (kL_armed l hlt D cI cZ cJ hX ho sa tL tH H.size u f (xs (Int32.toNatClampNeg (x4 + 1))) hIX) (vx_cwSW 3 hts gL_law_L_armed rfl rfl rfl (by decide +kernel) ⟨Nat.le_of_ble_eq_true rfl, Nat.le_of_ble_eq_true rfl⟩) ⟨bl_T, pr_T hPc hK hDc hT hS hFc⟩ rfl rfl hl.1 rfl (lv_room (Nat.le_of_ble_eq_true rfl)) dL_law_450 ⟨(by show 10 + k + 1 ≤ 1042; omega), (by show 1548 + 6 * k + 6 ≤ 9788; omega)⟩) hS (fun q _ h9 => hFc q h9) hFc (fun r98 w9 t H97 locs ht hvm hw hB hz1 hk1 hS => ?_)
                      obtain ⟨u9, f9⟩ := w9
                      obtain ⟨hP1, hK1, hD1⟩ := hB
                      rw [ht] at hP1
                      obtain ⟨hP, hD⟩ := va_join (wr := wM cI cZ hM v) (w1 := wO cI cZ cJ hX ho (u9, f9)) hP hD [0, 1, 2, 3, 4, 5, 9] [6, 7, 8] rfl rfl (by decide) (by decide) hk1 hFc hP1 hD1
                      have hP : va_P D vwCl (wL cI cZ cJ hX hM ho u9 v f9) H97 := hP.sub [3, 4, 5, 6, 7, 8, 0, 1, 2, 9] rfl
                      have hD : va_D (fun q : Nat => s.heap.size ≤ q) (wL cI cZ cJ hX hM ho u9 v f9) := hD.sub [3, 4, 5, 6, 7, 8, 0, 1, 2, 9] (by decide) rfl
                      refine W.widen (k := 10 + (k + 1)) (n := 1548 + 6 * (k + 1)) (by omega) (by omega) ?_
                      clear hPc hDc hFc hP1 hK1 hD1
                      obtain ⟨hI9, hw⟩ := hw
                      rcases hw with ⟨x9, hq, hr9, hf⟩ | ⟨hq, hr9, hwf⟩
                      · have hI9 : InvX u9 := hI9
                        have hr9 : r98 = 0 := hr9
                        subst hr9
                        have hf : f9 = _ := hf
                        have hq : pX0_armed u (xs (Int32.toNatClampNeg (x4 + 1))) = some (x9, u9) := hq
                        have hsim := sim_armed hR hIX hIM (by omega) (xs (Int32.toNatClampNeg (x4 + 1)))
                        rw [hq] at hsim
                        obtain ⟨hs1, hs2, hs3⟩ := hsim
                        refine lv_istore (lv' := [(5, .int 0), (0, .ref b), (1, .ref (hX 0)), (2, .ref (hM 0)), (3, .ref ho), (4, .int x4)]) hx hb dL_law_453 hl (by decide) rfl (fun ls hl => ?_)
                        refine lv_aload_n hx hb dL_law_455 rfl (lv_at hl 3 rfl) ?_
                        refine lv_aload_n hx hb dL_law_456 rfl (lv_at hl 1 rfl) ?_
                        refine lv_iload hx hb dL_law_457 (lv_at hl 5 rfl) ?_
                        refine lv_iconst (v := 1) hx hb dL_law_459 (by decide) ?_
                        refine lv_iadd hx hb dL_law_460 ?_
                        refine va_sld hx hb hX0 hbl hbA hS hv1 dL_law_461 ?_
                        have hPc := hP.sub (ws' := wM cI cZ hM v) [6, 7, 8] rfl
                        have hDc := hD.sub (ws' := wM cI cZ hM v) [6, 7, 8] (by decide) rfl
                        have hKc := hK.sub (tys' := tyl cI cZ) [0, 1] rfl
                        have hFc := va_free (wc := wM cI cZ hM v) hD hS hA [6, 7, 8] rfl
                        refine va_calli (va_runV (As := [.int (xs (Int32.toNatClampNeg (x4 + 1)))]) (rest := []) ⟨hx, hb, hml, hown, hts⟩ (kX1_armed l D cI cZ hM H97.size v (xs (Int32.toNatClampNeg (x4 + 1))) (100 * k) hIM (by omega)) (cwV 1 hts gL_law_X1_armed rfl rfl rfl (by decide +kernel) ⟨Nat.le_of_ble_eq_true rfl, Nat.le_of_ble_eq_true rfl⟩) ⟨bl_W, va_recv hKc hPc (ci := 1) (q0 := 0) rfl rfl, pr_W hPc hKc hDc⟩ rfl rfl hl.1 rfl (lv_room (Nat.le_of_ble_eq_true rfl)) dL_law_462 ⟨(by show 10 + (k + 1) + 0 ≤ 1042; omega), (by show 1548 + 6 * (k + 1) + 0 ≤ 9788; omega)⟩) hS (fun q _ h9 => hFc q h9) hFc (fun r100 w101 t H99 locs ht hvm hw hB hz1 hk1 hS => ?_)
                        obtain ⟨hP1, hK1, hD1⟩ := hB
                        rw [ht] at hP1
                        obtain ⟨hP, hD⟩ := va_join (wr := (wX cI cZ hX u9 ++ [(ho, .inl (cJ, 1, .inr (.inl f9)))])) (w1 := wM cI cZ hM w101) hP hD [6, 7, 8] [0, 1, 2, 3, 4, 5, 9] rfl rfl (by decide) (by decide) hk1 hFc hP1 hD1
                        have hP : va_P D vwCl (wL cI cZ cJ hX hM ho u9 w101 f9) H99 := hP.sub [0, 1, 2, 3, 4, 5, 7, 8, 9, 6] rfl
                        have hD : va_D (fun q : Nat => s.heap.size ≤ q) (wL cI cZ cJ hX hM ho u9 w101 f9) := hD.sub [0, 1, 2, 3, 4, 5, 7, 8, 9, 6] (by decide) rfl
                        refine W.widen (k := 10 + (k + 1)) (n := 1548 + 6 * (k + 1)) (by omega) (by omega) ?_
                        clear hPc hDc hKc hFc hP1 hK1 hD1
                        obtain ⟨er100, hIw101, hbz⟩ := hw
                        have eb : r100 = (pX1_armed v (xs (Int32.toNatClampNeg (x4 + 1)))).1 := congrArg Prod.fst er100
                        have ev : w101 = (pX1_armed v (xs (Int32.toNatClampNeg (x4 + 1)))).2 := congrArg Prod.snd er100
                        have hIw101 : InvM (100 * (k + 1)) w101 := hIw101.mono (by omega)
                        have hx9 : r100 = x9 := by rw [eb]; exact hs2
                        refine lv_istore (lv' := [(6, .int r100), (5, .int 0), (0, .ref b), (1, .ref (hX 0)), (2, .ref (hM 0)), (3, .ref ho), (4, .int x4)]) hx hb dL_law_465 hl (by decide) rfl (fun ls hl => ?_)
                        refine lv_aload_n hx hb dL_law_467 rfl (lv_at hl 4 rfl) ?_
                        have hPc := hP.sub (ws' := wM cI cZ hM w101) [6, 7, 8] rfl
                        have hDc := hD.sub (ws' := wM cI cZ hM w101) [6, 7, 8] (by decide) rfl
                        have hKc := hK.sub (tys' := tyl cI cZ) [0, 1] rfl
                        have hFc := va_free (wc := wM cI cZ hM w101) hD hS hA [6, 7, 8] rfl
                        refine va_calli (va_runV (As := []) (rest := []) ⟨hx, hb, hml, hown, hts⟩ (kX1_thrown l D cI cZ hM H99.size w101  (100 * (k + 1)) hIw101 (by omega)) (cwV 0 hts gL_law_X1_thrown rfl rfl rfl (by decide +kernel) ⟨Nat.le_of_ble_eq_true rfl, Nat.le_of_ble_eq_true rfl⟩) ⟨bl_W, va_recv hKc hPc (ci := 1) (q0 := 0) rfl rfl, pr_W hPc hKc hDc⟩ rfl rfl hl.1 rfl (lv_room (Nat.le_of_ble_eq_true rfl)) dL_law_468 ⟨(by show 10 + (k + 1) + 0 ≤ 1042; omega), (by show 1548 + 6 * (k + 1) + 0 ≤ 9788; omega)⟩) hS (fun q _ h9 => hFc q h9) hFc (fun r103 w104 t H102 locs ht hvm hw hB hz1 hk1 hS => ?_)
                        obtain ⟨hP1, hK1, hD1⟩ := hB
                        rw [ht] at hP1
                        obtain ⟨hP, hD⟩ := va_join (wr := (wX cI cZ hX u9 ++ [(ho, .inl (cJ, 1, .inr (.inl f9)))])) (w1 := wM cI cZ hM w104) hP hD [6, 7, 8] [0, 1, 2, 3, 4, 5, 9] rfl rfl (by decide) (by decide) hk1 hFc hP1 hD1
                        have hP : va_P D vwCl (wL cI cZ cJ hX hM ho u9 w104 f9) H102 := hP.sub [0, 1, 2, 3, 4, 5, 7, 8, 9, 6] rfl
                        have hD : va_D (fun q : Nat => s.heap.size ≤ q) (wL cI cZ cJ hX hM ho u9 w104 f9) := hD.sub [0, 1, 2, 3, 4, 5, 7, 8, 9, 6] (by decide) rfl
                        refine W.widen (k := 10 + (k + 1)) (n := 1548 + 6 * (k + 1)) (by omega) (by omega) ?_
                        clear hPc hDc hKc hFc hP1 hK1 hD1
                        obtain ⟨er103, ew104⟩ := hw
                        rw [ew104] at hP hD
                        refine lv_iload hx hb dL_law_471 (lv_at hl 1 rfl) ?_
                        refine lv_icmp_eq (tgt := 478) hx hb dL_law_473 (by decide) (fun _ => ?_) (fun c9 => absurd (by rw [er103]; show mt w101 = _; rw [ev]; exact hs1) c9)
                        refine lv_iload hx hb dL_law_478 (lv_at hl 1 rfl) ?_
                        refine lv_if_ne (tgt := 502) hx hb dL_law_480 (by decide) (fun c9 => absurd rfl c9) (fun _ => ?_)
                        refine lv_aload_n hx hb dL_law_483 rfl (lv_at hl 5 rfl) ?_
                        refine lv_iconst (v := 0) hx hb dL_law_484 (by decide) ?_
                        refine va_lald hx hb hK hP 9 2 rfl rfl (vi_c (by decide)) dL_law_485 ?_
                        refine lv_iload hx hb dL_law_486 (lv_at hl 0 rfl) ?_
                        refine lv_if_eq (tgt := 495) hx hb dL_law_488 (by decide) (fun cb => ?_) (fun cb => ?_)
                        · skip
                          refine lv_lconst (v := 0) hx hb dL_law_495 (by decide) ?_
                          refine W.lcmp hx hb dL_law_496 ?_
                          rw [show (f9 (Int32.toNatClampNeg 0)) = 0 from (by rw [hf]; show (if x9 = 0 then (0 : Int64) else 1) = 0; rw [← hx9]; exact if_pos cb), lc_cmp]
                          refine lv_if_eq (tgt := 502) hx hb dL_law_497 (by decide) (fun _ => ?_) (fun c9 => absurd rfl c9)
                          refine lv_goto (tgt := 611) hx hb dL_law_502 (by decide) ?_
                          exact NX u9 w101 f9 H102 _ _ (by rw [ev]; exact hs3) hI9 hIw101 hP hD hS (lv_sub hl [2, 3, 4, 5, 6] rfl)
                        · skip
                          refine lv_lconst (v := 1) hx hb dL_law_491 (by decide) ?_
                          refine lv_goto (tgt := 496) hx hb dL_law_492 (by decide) ?_
                          refine W.lcmp hx hb dL_law_496 ?_
                          rw [show (f9 (Int32.toNatClampNeg 0)) = 1 from (by rw [hf]; show (if x9 = 0 then (0 : Int64) else 1) = 1; rw [← hx9]; exact if_neg cb), lc_cmp]
                          refine lv_if_eq (tgt := 502) hx hb dL_law_497 (by decide) (fun _ => ?_) (fun c9 => absurd rfl c9)
                          refine lv_goto (tgt := 611) hx hb dL_law_502 (by decide) ?_
                          exact NX u9 w101 f9 H102 _ _ (by rw [ev]; exact hs3) hI9 hIw101 hP hD hS (lv_sub hl [2, 3, 4, 5, 6] rfl)
                      · have hI9 : InvX u9 := hI9
                        have hr9 : r98 = 1 := hr9
                        subst hr9
                        have hwf : (u9, f9) = (u, f) := hwf
                        obtain ⟨e8, e9⟩ := Prod.mk.inj hwf
                        rw [e8] at hP hD hI9
                        rw [e9] at hP hD
                        clear e8 e9 hwf
                        have hsim := sim_armed hR hIX hIM (by omega) (xs (Int32.toNatClampNeg (x4 + 1)))
                        rw [hq] at hsim
                        obtain ⟨hs1, hs3⟩ := hsim
                        refine lv_istore (lv' := [(5, .int 1), (0, .ref b), (1, .ref (hX 0)), (2, .ref (hM 0)), (3, .ref ho), (4, .int x4)]) hx hb dL_law_453 hl (by decide) rfl (fun ls hl => ?_)
                        refine lv_aload_n hx hb dL_law_455 rfl (lv_at hl 3 rfl) ?_
                        refine lv_aload_n hx hb dL_law_456 rfl (lv_at hl 1 rfl) ?_
                        refine lv_iload hx hb dL_law_457 (lv_at hl 5 rfl) ?_
                        refine lv_iconst (v := 1) hx hb dL_law_459 (by decide) ?_
                        refine lv_iadd hx hb dL_law_460 ?_
                        refine va_sld hx hb hX0 hbl hbA hS hv1 dL_law_461 ?_
                        have hPc := hP.sub (ws' := wM cI cZ hM v) [6, 7, 8] rfl
                        have hDc := hD.sub (ws' := wM cI cZ hM v) [6, 7, 8] (by decide) rfl
                        have hKc := hK.sub (tys' := tyl cI cZ) [0, 1] rfl
                        have hFc := va_free (wc := wM cI cZ hM v) hD hS hA [6, 7, 8] rfl
                        refine va_calli (va_runV (As := [.int (xs (Int32.toNatClampNeg (x4 + 1)))]) (rest := []) ⟨hx, hb, hml, hown, hts⟩ (kX1_armed l D cI cZ hM H97.size v (xs (Int32.toNatClampNeg (x4 + 1))) (100 * k) hIM (by omega)) (cwV 1 hts gL_law_X1_armed rfl rfl rfl (by decide +kernel) ⟨Nat.le_of_ble_eq_true rfl, Nat.le_of_ble_eq_true rfl⟩) ⟨bl_W, va_recv hKc hPc (ci := 1) (q0 := 0) rfl rfl, pr_W hPc hKc hDc⟩ rfl rfl hl.1 rfl (lv_room (Nat.le_of_ble_eq_true rfl)) dL_law_462 ⟨(by show 10 + (k + 1) + 0 ≤ 1042; omega), (by show 1548 + 6 * (k + 1) + 0 ≤ 9788; omega)⟩) hS (fun q _ h9 => hFc q h9) hFc (fun r106 w107 t H105 locs ht hvm hw hB hz1 hk1 hS => ?_)
                        obtain ⟨hP1, hK1, hD1⟩ := hB
                        rw [ht] at hP1
                        obtain ⟨hP, hD⟩ := va_join (wr := (wX cI cZ hX u ++ [(ho, .inl (cJ, 1, .inr (.inl f)))])) (w1 := wM cI cZ hM w107) hP hD [6, 7, 8] [0, 1, 2, 3, 4, 5, 9] rfl rfl (by decide) (by decide) hk1 hFc hP1 hD1
                        have hP : va_P D vwCl (wL cI cZ cJ hX hM ho u w107 f) H105 := hP.sub [0, 1, 2, 3, 4, 5, 7, 8, 9, 6] rfl
                        have hD : va_D (fun q : Nat => s.heap.size ≤ q) (wL cI cZ cJ hX hM ho u w107 f) := hD.sub [0, 1, 2, 3, 4, 5, 7, 8, 9, 6] (by decide) rfl
                        refine W.widen (k := 10 + (k + 1)) (n := 1548 + 6 * (k + 1)) (by omega) (by omega) ?_
                        clear hPc hDc hKc hFc hP1 hK1 hD1
                        obtain ⟨er106, hIw107, hbz⟩ := hw
                        have eb : r106 = (pX1_armed v (xs (Int32.toNatClampNeg (x4 + 1)))).1 := congrArg Prod.fst er106
                        have ev : w107 = (pX1_armed v (xs (Int32.toNatClampNeg (x4 + 1)))).2 := congrArg Prod.snd er106
                        have hIw107 : InvM (100 * (k + 1)) w107 := hIw107.mono (by omega)
                        refine lv_istore (lv' := [(6, .int r106), (5, .int 1), (0, .ref b), (1, .ref (hX 0)), (2, .ref (hM 0)), (3, .ref ho), (4, .int x4)]) hx hb dL_law_465 hl (by decide) rfl (fun ls hl => ?_)
                        refine lv_aload_n hx hb dL_law_467 rfl (lv_at hl 4 rfl) ?_
                        have hPc := hP.sub (ws' := wM cI cZ hM w107) [6, 7, 8] rfl
                        have hDc := hD.sub (ws' := wM cI cZ hM w107) [6, 7, 8] (by decide) rfl
                        have hKc := hK.sub (tys' := tyl cI cZ) [0, 1] rfl
                        have hFc := va_free (wc := wM cI cZ hM w107) hD hS hA [6, 7, 8] rfl
                        refine va_calli (va_runV (As := []) (rest := []) ⟨hx, hb, hml, hown, hts⟩ (kX1_thrown l D cI cZ hM H105.size w107  (100 * (k + 1)) hIw107 (by omega)) (cwV 0 hts gL_law_X1_thrown rfl rfl rfl (by decide +kernel) ⟨Nat.le_of_ble_eq_true rfl, Nat.le_of_ble_eq_true rfl⟩) ⟨bl_W, va_recv hKc hPc (ci := 1) (q0 := 0) rfl rfl, pr_W hPc hKc hDc⟩ rfl rfl hl.1 rfl (lv_room (Nat.le_of_ble_eq_true rfl)) dL_law_468 ⟨(by show 10 + (k + 1) + 0 ≤ 1042; omega), (by show 1548 + 6 * (k + 1) + 0 ≤ 9788; omega)⟩) hS (fun q _ h9 => hFc q h9) hFc (fun r109 w110 t H108 locs ht hvm hw hB hz1 hk1 hS => ?_)
                        obtain ⟨hP1, hK1, hD1⟩ := hB
                        rw [ht] at hP1
                        obtain ⟨hP, hD⟩ := va_join (wr := (wX cI cZ hX u ++ [(ho, .inl (cJ, 1, .inr (.inl f)))])) (w1 := wM cI cZ hM w110) hP hD [6, 7, 8] [0, 1, 2, 3, 4, 5, 9] rfl rfl (by decide) (by decide) hk1 hFc hP1 hD1
                        have hP : va_P D vwCl (wL cI cZ cJ hX hM ho u w110 f) H108 := hP.sub [0, 1, 2, 3, 4, 5, 7, 8, 9, 6] rfl
                        have hD : va_D (fun q : Nat => s.heap.size ≤ q) (wL cI cZ cJ hX hM ho u w110 f) := hD.sub [0, 1, 2, 3, 4, 5, 7, 8, 9, 6] (by decide) rfl
                        refine W.widen (k := 10 + (k + 1)) (n := 1548 + 6 * (k + 1)) (by omega) (by omega) ?_
                        clear hPc hDc hKc hFc hP1 hK1 hD1
                        obtain ⟨er109, ew110⟩ := hw
                        rw [ew110] at hP hD
                        refine lv_iload hx hb dL_law_471 (lv_at hl 1 rfl) ?_
                        refine lv_icmp_eq (tgt := 478) hx hb dL_law_473 (by decide) (fun _ => ?_) (fun c9 => absurd (by rw [er109]; show mt w107 = _; rw [ev]; exact hs1) c9)
                        refine lv_iload hx hb dL_law_478 (lv_at hl 1 rfl) ?_
                        refine lv_if_ne (tgt := 502) hx hb dL_law_480 (by decide) (fun _ => ?_) (fun c9 => absurd c9 (by decide))
                        refine lv_goto (tgt := 611) hx hb dL_law_502 (by decide) ?_
                        exact NX u w107 f H108 _ _ (by rw [ev]; exact hs3) hI9 hIw107 hP hD hS (lv_sub hl [2, 3, 4, 5, 6] rfl)
                    · skip
                      by_cases cs8 : sw = 8
                      · refine lv_tableIn (off := 466) (tgt := 505) hx hb dL_law_39 (by rw [cs8]; decide) (by rw [cs8]; decide) (by rw [cs8]; rfl) (by decide) ?_
                        obtain ⟨hs1, hs2⟩ := sim_shown hR hIX hIM (by omega)
                        refine lv_aload_n hx hb dL_law_505 rfl (lv_at hl 1 rfl) ?_
                        have hPc := hP.sub (ws' := wX cI cZ hX u) [0, 1, 2, 3, 4, 5] rfl
                        have hDc := hD.sub (ws' := wX cI cZ hX u) [0, 1, 2, 3, 4, 5] (by decide) rfl
                        have hKc := hK.sub (tys' := tyl cI cZ) [0, 1] rfl
                        have hFc := va_free (wc := wX cI cZ hX u) hD hS hA [0, 1, 2, 3, 4, 5] rfl
                        refine va_calli (va_runV (As := []) (rest := []) ⟨hx, hb, hml, hown, hts⟩ (kX0_shown l D cI cZ hX H.size u  hIX) (cwV 0 hts gL_law_X0_shown rfl rfl rfl (by decide +kernel) ⟨Nat.le_of_ble_eq_true rfl, Nat.le_of_ble_eq_true rfl⟩) ⟨bl_W, va_recv hKc hPc (ci := 0) (q0 := 0) rfl rfl, pr_W hPc hKc hDc⟩ rfl rfl hl.1 rfl (lv_room (Nat.le_of_ble_eq_true rfl)) dL_law_506 ⟨(by show 10 + k + 0 ≤ 1042; omega), (by show 1548 + 6 * k + 0 ≤ 9788; omega)⟩) hS (fun q _ h9 => hFc q h9) hFc (fun r112 w113 t H111 locs ht hvm hw hB hz1 hk1 hS => ?_)
                        obtain ⟨hP1, hK1, hD1⟩ := hB
                        rw [ht] at hP1
                        obtain ⟨hP, hD⟩ := va_join (wr := (wM cI cZ hM v ++ [(ho, .inl (cJ, 1, .inr (.inl f)))])) (w1 := wX cI cZ hX w113) hP hD [0, 1, 2, 3, 4, 5] [6, 7, 8, 9] rfl rfl (by decide) (by decide) hk1 hFc hP1 hD1
                        have hP : va_P D vwCl (wL cI cZ cJ hX hM ho w113 v f) H111 := hP.sub [4, 5, 6, 7, 8, 9, 0, 1, 2, 3] rfl
                        have hD : va_D (fun q : Nat => s.heap.size ≤ q) (wL cI cZ cJ hX hM ho w113 v f) := hD.sub [4, 5, 6, 7, 8, 9, 0, 1, 2, 3] (by decide) rfl
                        refine W.widen (k := 10 + k) (n := 1548 + 6 * k) (by omega) (by omega) ?_
                        clear hPc hDc hKc hFc hP1 hK1 hD1
                        obtain ⟨er112, ew113⟩ := hw
                        rw [ew113] at hP hD
                        refine lv_aload_n hx hb dL_law_509 rfl (lv_at hl 2 rfl) ?_
                        have hPc := hP.sub (ws' := wM cI cZ hM v) [6, 7, 8] rfl
                        have hDc := hD.sub (ws' := wM cI cZ hM v) [6, 7, 8] (by decide) rfl
                        have hKc := hK.sub (tys' := tyl cI cZ) [0, 1] rfl
                        have hFc := va_free (wc := wM cI cZ hM v) hD hS hA [6, 7, 8] rfl
                        refine va_calli (va_runV (As := []) (rest := [.int r112]) ⟨hx, hb, hml, hown, hts⟩ (kX1_shown l D cI cZ hM H111.size v  (100 * k) hIM (by omega)) (cwV 0 hts gL_law_X1_shown rfl rfl rfl (by decide +kernel) ⟨Nat.le_of_ble_eq_true rfl, Nat.le_of_ble_eq_true rfl⟩) ⟨bl_W, va_recv hKc hPc (ci := 1) (q0 := 0) rfl rfl, pr_W hPc hKc hDc⟩ rfl rfl hl.1 rfl (lv_room (Nat.le_of_ble_eq_true rfl)) dL_law_510 ⟨(by show 10 + k + 0 ≤ 1042; omega), (by show 1548 + 6 * k + 0 ≤ 9788; omega)⟩) hS (fun q _ h9 => hFc q h9) hFc (fun r115 w116 t H114 locs ht hvm hw hB hz1 hk1 hS => ?_)
                        obtain ⟨hP1, hK1, hD1⟩ := hB
                        rw [ht] at hP1
                        obtain ⟨hP, hD⟩ := va_join (wr := (wX cI cZ hX u ++ [(ho, .inl (cJ, 1, .inr (.inl f)))])) (w1 := wM cI cZ hM w116) hP hD [6, 7, 8] [0, 1, 2, 3, 4, 5, 9] rfl rfl (by decide) (by decide) hk1 hFc hP1 hD1
                        have hP : va_P D vwCl (wL cI cZ cJ hX hM ho u w116 f) H114 := hP.sub [0, 1, 2, 3, 4, 5, 7, 8, 9, 6] rfl
                        have hD : va_D (fun q : Nat => s.heap.size ≤ q) (wL cI cZ cJ hX hM ho u w116 f) := hD.sub [0, 1, 2, 3, 4, 5, 7, 8, 9, 6] (by decide) rfl
                        refine W.widen (k := 10 + k) (n := 1548 + 6 * k) (by omega) (by omega) ?_
                        clear hPc hDc hKc hFc hP1 hK1 hD1
                        obtain ⟨er115, hIw116⟩ := hw
                        have eb : r115 = (pX1_shown v).1 := congrArg Prod.fst er115
                        have ev : w116 = (pX1_shown v).2 := congrArg Prod.snd er115
                        have hIw116 : InvM (100 * (k + 1)) w116 := hIw116.mono (by omega)
                        refine lv_icmp_eq (tgt := 611) hx hb dL_law_513 (by decide) (fun _ => ?_) (fun c9 => absurd (by rw [er112, eb]; exact hs1) c9)
                        refine W.widen (k := 10 + (k + 1)) (n := 1548 + 6 * (k + 1)) (by omega) (by omega) ?_
                        exact NX u w116 f H114 _ _ (by rw [ev]; exact hs2) hIX hIw116 hP hD hS (lv_sub hl [0, 1, 2, 3, 4] rfl)
                      · skip
                        by_cases cs9 : sw = 9
                        · refine lv_tableIn (off := 479) (tgt := 518) hx hb dL_law_39 (by rw [cs9]; decide) (by rw [cs9]; decide) (by rw [cs9]; rfl) (by decide) ?_
                          obtain ⟨hs1, hs2⟩ := sim_kept hR hIX hIM (by omega) (xs (Int32.toNatClampNeg (x4 + 1))) (xs (Int32.toNatClampNeg (x4 + 2)))
                          refine lv_aload_n hx hb dL_law_518 rfl (lv_at hl 1 rfl) ?_
                          refine lv_aload_n hx hb dL_law_519 rfl (lv_at hl 0 rfl) ?_
                          refine lv_iload hx hb dL_law_520 (lv_at hl 4 rfl) ?_
                          refine lv_iconst (v := 1) hx hb dL_law_522 (by decide) ?_
                          refine lv_iadd hx hb dL_law_523 ?_
                          refine va_sld hx hb hX0 hbl hbA hS hv1 dL_law_524 ?_
                          refine lv_aload_n hx hb dL_law_525 rfl (lv_at hl 0 rfl) ?_
                          refine lv_iload hx hb dL_law_526 (lv_at hl 4 rfl) ?_
                          refine lv_iconst (v := 2) hx hb dL_law_528 (by decide) ?_
                          refine lv_iadd hx hb dL_law_529 ?_
                          refine va_sld hx hb hX0 hbl hbA hS hv2 dL_law_530 ?_
                          have hPc := hP.sub (ws' := wX cI cZ hX u) [0, 1, 2, 3, 4, 5] rfl
                          have hDc := hD.sub (ws' := wX cI cZ hX u) [0, 1, 2, 3, 4, 5] (by decide) rfl
                          have hKc := hK.sub (tys' := tyl cI cZ) [0, 1] rfl
                          have hFc := va_free (wc := wX cI cZ hX u) hD hS hA [0, 1, 2, 3, 4, 5] rfl
                          refine va_calli (va_runV (As := [.int (xs (Int32.toNatClampNeg (x4 + 1))), .int (xs (Int32.toNatClampNeg (x4 + 2)))]) (rest := []) ⟨hx, hb, hml, hown, hts⟩ (kX0_kept l D cI cZ hX H.size u (xs (Int32.toNatClampNeg (x4 + 1))) (xs (Int32.toNatClampNeg (x4 + 2))) hIX) (cwV 2 hts gL_law_X0_kept rfl rfl rfl (by decide +kernel) ⟨Nat.le_of_ble_eq_true rfl, Nat.le_of_ble_eq_true rfl⟩) ⟨bl_W, va_recv hKc hPc (ci := 0) (q0 := 0) rfl rfl, pr_W hPc hKc hDc⟩ rfl rfl hl.1 rfl (lv_room (Nat.le_of_ble_eq_true rfl)) dL_law_531 ⟨(by show 10 + k + 0 ≤ 1042; omega), (by show 1548 + 6 * k + 0 ≤ 9788; omega)⟩) hS (fun q _ h9 => hFc q h9) hFc (fun r118 w119 t H117 locs ht hvm hw hB hz1 hk1 hS => ?_)
                          obtain ⟨hP1, hK1, hD1⟩ := hB
                          rw [ht] at hP1
                          obtain ⟨hP, hD⟩ := va_join (wr := (wM cI cZ hM v ++ [(ho, .inl (cJ, 1, .inr (.inl f)))])) (w1 := wX cI cZ hX w119) hP hD [0, 1, 2, 3, 4, 5] [6, 7, 8, 9] rfl rfl (by decide) (by decide) hk1 hFc hP1 hD1
                          have hP : va_P D vwCl (wL cI cZ cJ hX hM ho w119 v f) H117 := hP.sub [4, 5, 6, 7, 8, 9, 0, 1, 2, 3] rfl
                          have hD : va_D (fun q : Nat => s.heap.size ≤ q) (wL cI cZ cJ hX hM ho w119 v f) := hD.sub [4, 5, 6, 7, 8, 9, 0, 1, 2, 3] (by decide) rfl
                          refine W.widen (k := 10 + k) (n := 1548 + 6 * k) (by omega) (by omega) ?_
                          clear hPc hDc hKc hFc hP1 hK1 hD1
                          obtain ⟨er118, ew119⟩ := hw
                          rw [ew119] at hP hD
                          refine lv_aload_n hx hb dL_law_534 rfl (lv_at hl 2 rfl) ?_
                          refine lv_aload_n hx hb dL_law_535 rfl (lv_at hl 0 rfl) ?_
                          refine lv_iload hx hb dL_law_536 (lv_at hl 4 rfl) ?_
                          refine lv_iconst (v := 1) hx hb dL_law_538 (by decide) ?_
                          refine lv_iadd hx hb dL_law_539 ?_
                          refine va_sld hx hb hX0 hbl hbA hS hv1 dL_law_540 ?_
                          refine lv_aload_n hx hb dL_law_541 rfl (lv_at hl 0 rfl) ?_
                          refine lv_iload hx hb dL_law_542 (lv_at hl 4 rfl) ?_
                          refine lv_iconst (v := 2) hx hb dL_law_544 (by decide) ?_
                          refine lv_iadd hx hb dL_law_545 ?_
                          refine va_sld hx hb hX0 hbl hbA hS hv2 dL_law_546 ?_
                          have hPc := hP.sub (ws' := wM cI cZ hM v) [6, 7, 8] rfl
                          have hDc := hD.sub (ws' := wM cI cZ hM v) [6, 7, 8] (by decide) rfl
                          have hKc := hK.sub (tys' := tyl cI cZ) [0, 1] rfl
                          have hFc := va_free (wc := wM cI cZ hM v) hD hS hA [6, 7, 8] rfl
                          refine va_calli (va_runV (As := [.int (xs (Int32.toNatClampNeg (x4 + 1))), .int (xs (Int32.toNatClampNeg (x4 + 2)))]) (rest := [.int r118]) ⟨hx, hb, hml, hown, hts⟩ (kX1_kept l D cI cZ hM H117.size v (xs (Int32.toNatClampNeg (x4 + 1))) (xs (Int32.toNatClampNeg (x4 + 2))) (100 * k) hIM (by omega)) (cwV 2 hts gL_law_X1_kept rfl rfl rfl (by decide +kernel) ⟨Nat.le_of_ble_eq_true rfl, Nat.le_of_ble_eq_true rfl⟩) ⟨bl_W, va_recv hKc hPc (ci := 1) (q0 := 0) rfl rfl, pr_W hPc hKc hDc⟩ rfl rfl hl.1 rfl (lv_room (Nat.le_of_ble_eq_true rfl)) dL_law_547 ⟨(by show 10 + k + 0 ≤ 1042; omega), (by show 1548 + 6 * k + 0 ≤ 9788; omega)⟩) hS (fun q _ h9 => hFc q h9) hFc (fun r121 w122 t H120 locs ht hvm hw hB hz1 hk1 hS => ?_)
                          obtain ⟨hP1, hK1, hD1⟩ := hB
                          rw [ht] at hP1
                          obtain ⟨hP, hD⟩ := va_join (wr := (wX cI cZ hX u ++ [(ho, .inl (cJ, 1, .inr (.inl f)))])) (w1 := wM cI cZ hM w122) hP hD [6, 7, 8] [0, 1, 2, 3, 4, 5, 9] rfl rfl (by decide) (by decide) hk1 hFc hP1 hD1
                          have hP : va_P D vwCl (wL cI cZ cJ hX hM ho u w122 f) H120 := hP.sub [0, 1, 2, 3, 4, 5, 7, 8, 9, 6] rfl
                          have hD : va_D (fun q : Nat => s.heap.size ≤ q) (wL cI cZ cJ hX hM ho u w122 f) := hD.sub [0, 1, 2, 3, 4, 5, 7, 8, 9, 6] (by decide) rfl
                          refine W.widen (k := 10 + k) (n := 1548 + 6 * k) (by omega) (by omega) ?_
                          clear hPc hDc hKc hFc hP1 hK1 hD1
                          obtain ⟨er121, hIw122⟩ := hw
                          have eb : r121 = (pX1_kept v (xs (Int32.toNatClampNeg (x4 + 1))) (xs (Int32.toNatClampNeg (x4 + 2)))).1 := congrArg Prod.fst er121
                          have ev : w122 = (pX1_kept v (xs (Int32.toNatClampNeg (x4 + 1))) (xs (Int32.toNatClampNeg (x4 + 2)))).2 := congrArg Prod.snd er121
                          have hIw122 : InvM (100 * (k + 1)) w122 := hIw122.mono (by omega)
                          refine lv_icmp_eq (tgt := 611) hx hb dL_law_550 (by decide) (fun _ => ?_) (fun c9 => absurd (by rw [er118, eb]; exact hs1) c9)
                          refine W.widen (k := 10 + (k + 1)) (n := 1548 + 6 * (k + 1)) (by omega) (by omega) ?_
                          exact NX u w122 f H120 _ _ (by rw [ev]; exact hs2) hIX hIw122 hP hD hS (lv_sub hl [0, 1, 2, 3, 4] rfl)
                        · skip
                          by_cases cs10 : sw = 10
                          · refine lv_tableIn (off := 516) (tgt := 555) hx hb dL_law_39 (by rw [cs10]; decide) (by rw [cs10]; decide) (by rw [cs10]; rfl) (by decide) ?_
                            refine lv_aload_n hx hb dL_law_555 rfl (lv_at hl 1 rfl) ?_
                            refine lv_aload_n hx hb dL_law_556 rfl (lv_at hl 0 rfl) ?_
                            refine lv_iload hx hb dL_law_557 (lv_at hl 4 rfl) ?_
                            refine lv_iconst (v := 1) hx hb dL_law_559 (by decide) ?_
                            refine lv_iadd hx hb dL_law_560 ?_
                            refine va_sld hx hb hX0 hbl hbA hS hv1 dL_law_561 ?_
                            refine lv_aload_n hx hb dL_law_562 rfl (lv_at hl 3 rfl) ?_
                            have hPc := hP.sub (ws' := wO cI cZ cJ hX ho (u, f)) [0, 1, 2, 3, 4, 5, 9] rfl
                            have hDc := hD.sub (ws' := wO cI cZ cJ hX ho (u, f)) [0, 1, 2, 3, 4, 5, 9] (by decide) rfl
                            have hFc := va_free (wc := wO cI cZ cJ hX ho (u, f)) hD hS hA [0, 1, 2, 3, 4, 5, 9] rfl
                            refine va_calli (vx_runSW (As := [.ref (hX 0), .int (xs (Int32.toNatClampNeg (x4 + 1))), .ref ho]) (rest := []) ⟨hx, hb, hml, hown, hts⟩ (kL_measure l hlt D cI cZ cJ hX ho sa tL tH H.size u f (xs (Int32.toNatClampNeg (x4 + 1))) hIX) (vx_cwSW 3 hts gL_law_L_measure rfl rfl rfl (by decide +kernel) ⟨Nat.le_of_ble_eq_true rfl, Nat.le_of_ble_eq_true rfl⟩) ⟨bl_T, pr_T hPc hK hDc hT hS hFc⟩ rfl rfl hl.1 rfl (lv_room (Nat.le_of_ble_eq_true rfl)) dL_law_563 ⟨(by show 10 + k + 1 ≤ 1042; omega), (by show 1548 + 6 * k + 6 ≤ 9788; omega)⟩) hS (fun q _ h9 => hFc q h9) hFc (fun r124 w9 t H123 locs ht hvm hw hB hz1 hk1 hS => ?_)
                            obtain ⟨u9, f9⟩ := w9
                            obtain ⟨hP1, hK1, hD1⟩ := hB
                            rw [ht] at hP1
                            obtain ⟨hP, hD⟩ := va_join (wr := wM cI cZ hM v) (w1 := wO cI cZ cJ hX ho (u9, f9)) hP hD [0, 1, 2, 3, 4, 5, 9] [6, 7, 8] rfl rfl (by decide) (by decide) hk1 hFc hP1 hD1
                            have hP : va_P D vwCl (wL cI cZ cJ hX hM ho u9 v f9) H123 := hP.sub [3, 4, 5, 6, 7, 8, 0, 1, 2, 9] rfl
                            have hD : va_D (fun q : Nat => s.heap.size ≤ q) (wL cI cZ cJ hX hM ho u9 v f9) := hD.sub [3, 4, 5, 6, 7, 8, 0, 1, 2, 9] (by decide) rfl
                            refine W.widen (k := 10 + (k + 1)) (n := 1548 + 6 * (k + 1)) (by omega) (by omega) ?_
                            clear hPc hDc hFc hP1 hK1 hD1
                            obtain ⟨hI9, hw⟩ := hw
                            rcases hw with ⟨x9, hq, hr9, hf⟩ | ⟨hq, hr9, hwf⟩
                            · have hI9 : InvX u9 := hI9
                              have hr9 : r124 = 0 := hr9
                              subst hr9
                              have hf : f9 = _ := hf
                              have hq : pX0_measure u (xs (Int32.toNatClampNeg (x4 + 1))) = some (x9, u9) := hq
                              have hsim := sim_measure hR hIX hIM (by omega) (xs (Int32.toNatClampNeg (x4 + 1)))
                              rw [hq] at hsim
                              obtain ⟨hs1, hs2, hs3⟩ := hsim
                              refine lv_istore (lv' := [(5, .int 0), (0, .ref b), (1, .ref (hX 0)), (2, .ref (hM 0)), (3, .ref ho), (4, .int x4)]) hx hb dL_law_566 hl (by decide) rfl (fun ls hl => ?_)
                              refine lv_aload_n hx hb dL_law_568 rfl (lv_at hl 3 rfl) ?_
                              refine lv_aload_n hx hb dL_law_569 rfl (lv_at hl 1 rfl) ?_
                              refine lv_iload hx hb dL_law_570 (lv_at hl 5 rfl) ?_
                              refine lv_iconst (v := 1) hx hb dL_law_572 (by decide) ?_
                              refine lv_iadd hx hb dL_law_573 ?_
                              refine va_sld hx hb hX0 hbl hbA hS hv1 dL_law_574 ?_
                              have hPc := hP.sub (ws' := wM cI cZ hM v) [6, 7, 8] rfl
                              have hDc := hD.sub (ws' := wM cI cZ hM v) [6, 7, 8] (by decide) rfl
                              have hKc := hK.sub (tys' := tyl cI cZ) [0, 1] rfl
                              have hFc := va_free (wc := wM cI cZ hM v) hD hS hA [6, 7, 8] rfl
                              refine va_calli (va_runV (As := [.int (xs (Int32.toNatClampNeg (x4 + 1)))]) (rest := []) ⟨hx, hb, hml, hown, hts⟩ (kX1_measure l D cI cZ hM H123.size v (xs (Int32.toNatClampNeg (x4 + 1))) (100 * k) hIM (by omega)) (cwV 1 hts gL_law_X1_measure rfl rfl rfl (by decide +kernel) ⟨Nat.le_of_ble_eq_true rfl, Nat.le_of_ble_eq_true rfl⟩) ⟨bl_W, va_recv hKc hPc (ci := 1) (q0 := 0) rfl rfl, pr_W hPc hKc hDc⟩ rfl rfl hl.1 rfl (lv_room (Nat.le_of_ble_eq_true rfl)) dL_law_575 ⟨(by show 10 + (k + 1) + 0 ≤ 1042; omega), (by show 1548 + 6 * (k + 1) + 0 ≤ 9788; omega)⟩) hS (fun q _ h9 => hFc q h9) hFc (fun r126 w127 t H125 locs ht hvm hw hB hz1 hk1 hS => ?_)
                              obtain ⟨hP1, hK1, hD1⟩ := hB
                              rw [ht] at hP1
                              obtain ⟨hP, hD⟩ := va_join (wr := (wX cI cZ hX u9 ++ [(ho, .inl (cJ, 1, .inr (.inl f9)))])) (w1 := wM cI cZ hM w127) hP hD [6, 7, 8] [0, 1, 2, 3, 4, 5, 9] rfl rfl (by decide) (by decide) hk1 hFc hP1 hD1
                              have hP : va_P D vwCl (wL cI cZ cJ hX hM ho u9 w127 f9) H125 := hP.sub [0, 1, 2, 3, 4, 5, 7, 8, 9, 6] rfl
                              have hD : va_D (fun q : Nat => s.heap.size ≤ q) (wL cI cZ cJ hX hM ho u9 w127 f9) := hD.sub [0, 1, 2, 3, 4, 5, 7, 8, 9, 6] (by decide) rfl
                              refine W.widen (k := 10 + (k + 1)) (n := 1548 + 6 * (k + 1)) (by omega) (by omega) ?_
                              clear hPc hDc hKc hFc hP1 hK1 hD1
                              obtain ⟨er126, hIw127⟩ := hw
                              have eb : r126 = (pX1_measure v (xs (Int32.toNatClampNeg (x4 + 1)))).1 := congrArg Prod.fst er126
                              have ev : w127 = (pX1_measure v (xs (Int32.toNatClampNeg (x4 + 1)))).2 := congrArg Prod.snd er126
                              have hIw127 : InvM (100 * (k + 1)) w127 := hIw127.mono (by omega)
                              refine lv_istore (lv' := [(6, .int r126), (5, .int 0), (0, .ref b), (1, .ref (hX 0)), (2, .ref (hM 0)), (3, .ref ho), (4, .int x4)]) hx hb dL_law_578 hl (by decide) rfl (fun ls hl => ?_)
                              refine lv_aload_n hx hb dL_law_580 rfl (lv_at hl 4 rfl) ?_
                              have hPc := hP.sub (ws' := wM cI cZ hM w127) [6, 7, 8] rfl
                              have hDc := hD.sub (ws' := wM cI cZ hM w127) [6, 7, 8] (by decide) rfl
                              have hKc := hK.sub (tys' := tyl cI cZ) [0, 1] rfl
                              have hFc := va_free (wc := wM cI cZ hM w127) hD hS hA [6, 7, 8] rfl
                              refine va_calli (va_runV (As := []) (rest := []) ⟨hx, hb, hml, hown, hts⟩ (kX1_thrown l D cI cZ hM H125.size w127  (100 * (k + 1)) hIw127 (by omega)) (cwV 0 hts gL_law_X1_thrown rfl rfl rfl (by decide +kernel) ⟨Nat.le_of_ble_eq_true rfl, Nat.le_of_ble_eq_true rfl⟩) ⟨bl_W, va_recv hKc hPc (ci := 1) (q0 := 0) rfl rfl, pr_W hPc hKc hDc⟩ rfl rfl hl.1 rfl (lv_room (Nat.le_of_ble_eq_true rfl)) dL_law_581 ⟨(by show 10 + (k + 1) + 0 ≤ 1042; omega), (by show 1548 + 6 * (k + 1) + 0 ≤ 9788; omega)⟩) hS (fun q _ h9 => hFc q h9) hFc (fun r129 w130 t H128 locs ht hvm hw hB hz1 hk1 hS => ?_)
                              obtain ⟨hP1, hK1, hD1⟩ := hB
                              rw [ht] at hP1
                              obtain ⟨hP, hD⟩ := va_join (wr := (wX cI cZ hX u9 ++ [(ho, .inl (cJ, 1, .inr (.inl f9)))])) (w1 := wM cI cZ hM w130) hP hD [6, 7, 8] [0, 1, 2, 3, 4, 5, 9] rfl rfl (by decide) (by decide) hk1 hFc hP1 hD1
                              have hP : va_P D vwCl (wL cI cZ cJ hX hM ho u9 w130 f9) H128 := hP.sub [0, 1, 2, 3, 4, 5, 7, 8, 9, 6] rfl
                              have hD : va_D (fun q : Nat => s.heap.size ≤ q) (wL cI cZ cJ hX hM ho u9 w130 f9) := hD.sub [0, 1, 2, 3, 4, 5, 7, 8, 9, 6] (by decide) rfl
                              refine W.widen (k := 10 + (k + 1)) (n := 1548 + 6 * (k + 1)) (by omega) (by omega) ?_
                              clear hPc hDc hKc hFc hP1 hK1 hD1
                              obtain ⟨er129, ew130⟩ := hw
                              rw [ew130] at hP hD
                              refine lv_iload hx hb dL_law_584 (lv_at hl 1 rfl) ?_
                              refine lv_icmp_eq (tgt := 591) hx hb dL_law_586 (by decide) (fun _ => ?_) (fun c9 => absurd (by rw [er129]; show mt w127 = _; rw [ev]; exact hs1) c9)
                              refine lv_iload hx hb dL_law_591 (lv_at hl 1 rfl) ?_
                              refine lv_if_ne (tgt := 608) hx hb dL_law_593 (by decide) (fun c9 => absurd rfl c9) (fun _ => ?_)
                              refine lv_aload_n hx hb dL_law_596 rfl (lv_at hl 5 rfl) ?_
                              refine lv_iconst (v := 0) hx hb dL_law_597 (by decide) ?_
                              refine va_lald hx hb hK hP 9 2 rfl rfl (vi_c (by decide)) dL_law_598 ?_
                              refine lv_iload hx hb dL_law_599 (lv_at hl 0 rfl) ?_
                              refine lv_i2l (v := (Int32.toInt64 r126)) hx hb dL_law_601 rfl ?_
                              refine W.lcmp hx hb dL_law_602 ?_
                              rw [show (f9 (Int32.toNatClampNeg 0)) = (Int32.toInt64 r126) from (by rw [hf, eb, hs2]; rfl), lc_cmp]
                              refine lv_if_eq (tgt := 608) hx hb dL_law_603 (by decide) (fun _ => ?_) (fun c9 => absurd rfl c9)
                              refine lv_goto (tgt := 611) hx hb dL_law_608 (by decide) ?_
                              exact NX u9 w127 f9 H128 _ _ (by rw [ev]; exact hs3) hI9 hIw127 hP hD hS (lv_sub hl [2, 3, 4, 5, 6] rfl)
                            · have hI9 : InvX u9 := hI9
                              have hr9 : r124 = 1 := hr9
                              subst hr9
                              have hwf : (u9, f9) = (u, f) := hwf
                              obtain ⟨e8, e9⟩ := Prod.mk.inj hwf
                              rw [e8] at hP hD hI9
                              rw [e9] at hP hD
                              clear e8 e9 hwf
                              have hsim := sim_measure hR hIX hIM (by omega) (xs (Int32.toNatClampNeg (x4 + 1)))
                              rw [hq] at hsim
                              obtain ⟨hs1, hs3⟩ := hsim
                              refine lv_istore (lv' := [(5, .int 1), (0, .ref b), (1, .ref (hX 0)), (2, .ref (hM 0)), (3, .ref ho), (4, .int x4)]) hx hb dL_law_566 hl (by decide) rfl (fun ls hl => ?_)
                              refine lv_aload_n hx hb dL_law_568 rfl (lv_at hl 3 rfl) ?_
                              refine lv_aload_n hx hb dL_law_569 rfl (lv_at hl 1 rfl) ?_
                              refine lv_iload hx hb dL_law_570 (lv_at hl 5 rfl) ?_
                              refine lv_iconst (v := 1) hx hb dL_law_572 (by decide) ?_
                              refine lv_iadd hx hb dL_law_573 ?_
                              refine va_sld hx hb hX0 hbl hbA hS hv1 dL_law_574 ?_
                              have hPc := hP.sub (ws' := wM cI cZ hM v) [6, 7, 8] rfl
                              have hDc := hD.sub (ws' := wM cI cZ hM v) [6, 7, 8] (by decide) rfl
                              have hKc := hK.sub (tys' := tyl cI cZ) [0, 1] rfl
                              have hFc := va_free (wc := wM cI cZ hM v) hD hS hA [6, 7, 8] rfl
                              refine va_calli (va_runV (As := [.int (xs (Int32.toNatClampNeg (x4 + 1)))]) (rest := []) ⟨hx, hb, hml, hown, hts⟩ (kX1_measure l D cI cZ hM H123.size v (xs (Int32.toNatClampNeg (x4 + 1))) (100 * k) hIM (by omega)) (cwV 1 hts gL_law_X1_measure rfl rfl rfl (by decide +kernel) ⟨Nat.le_of_ble_eq_true rfl, Nat.le_of_ble_eq_true rfl⟩) ⟨bl_W, va_recv hKc hPc (ci := 1) (q0 := 0) rfl rfl, pr_W hPc hKc hDc⟩ rfl rfl hl.1 rfl (lv_room (Nat.le_of_ble_eq_true rfl)) dL_law_575 ⟨(by show 10 + (k + 1) + 0 ≤ 1042; omega), (by show 1548 + 6 * (k + 1) + 0 ≤ 9788; omega)⟩) hS (fun q _ h9 => hFc q h9) hFc (fun r132 w133 t H131 locs ht hvm hw hB hz1 hk1 hS => ?_)
                              obtain ⟨hP1, hK1, hD1⟩ := hB
                              rw [ht] at hP1
                              obtain ⟨hP, hD⟩ := va_join (wr := (wX cI cZ hX u ++ [(ho, .inl (cJ, 1, .inr (.inl f)))])) (w1 := wM cI cZ hM w133) hP hD [6, 7, 8] [0, 1, 2, 3, 4, 5, 9] rfl rfl (by decide) (by decide) hk1 hFc hP1 hD1
                              have hP : va_P D vwCl (wL cI cZ cJ hX hM ho u w133 f) H131 := hP.sub [0, 1, 2, 3, 4, 5, 7, 8, 9, 6] rfl
                              have hD : va_D (fun q : Nat => s.heap.size ≤ q) (wL cI cZ cJ hX hM ho u w133 f) := hD.sub [0, 1, 2, 3, 4, 5, 7, 8, 9, 6] (by decide) rfl
                              refine W.widen (k := 10 + (k + 1)) (n := 1548 + 6 * (k + 1)) (by omega) (by omega) ?_
                              clear hPc hDc hKc hFc hP1 hK1 hD1
                              obtain ⟨er132, hIw133⟩ := hw
                              have eb : r132 = (pX1_measure v (xs (Int32.toNatClampNeg (x4 + 1)))).1 := congrArg Prod.fst er132
                              have ev : w133 = (pX1_measure v (xs (Int32.toNatClampNeg (x4 + 1)))).2 := congrArg Prod.snd er132
                              have hIw133 : InvM (100 * (k + 1)) w133 := hIw133.mono (by omega)
                              refine lv_istore (lv' := [(6, .int r132), (5, .int 1), (0, .ref b), (1, .ref (hX 0)), (2, .ref (hM 0)), (3, .ref ho), (4, .int x4)]) hx hb dL_law_578 hl (by decide) rfl (fun ls hl => ?_)
                              refine lv_aload_n hx hb dL_law_580 rfl (lv_at hl 4 rfl) ?_
                              have hPc := hP.sub (ws' := wM cI cZ hM w133) [6, 7, 8] rfl
                              have hDc := hD.sub (ws' := wM cI cZ hM w133) [6, 7, 8] (by decide) rfl
                              have hKc := hK.sub (tys' := tyl cI cZ) [0, 1] rfl
                              have hFc := va_free (wc := wM cI cZ hM w133) hD hS hA [6, 7, 8] rfl
                              refine va_calli (va_runV (As := []) (rest := []) ⟨hx, hb, hml, hown, hts⟩ (kX1_thrown l D cI cZ hM H131.size w133  (100 * (k + 1)) hIw133 (by omega)) (cwV 0 hts gL_law_X1_thrown rfl rfl rfl (by decide +kernel) ⟨Nat.le_of_ble_eq_true rfl, Nat.le_of_ble_eq_true rfl⟩) ⟨bl_W, va_recv hKc hPc (ci := 1) (q0 := 0) rfl rfl, pr_W hPc hKc hDc⟩ rfl rfl hl.1 rfl (lv_room (Nat.le_of_ble_eq_true rfl)) dL_law_581 ⟨(by show 10 + (k + 1) + 0 ≤ 1042; omega), (by show 1548 + 6 * (k + 1) + 0 ≤ 9788; omega)⟩) hS (fun q _ h9 => hFc q h9) hFc (fun r135 w136 t H134 locs ht hvm hw hB hz1 hk1 hS => ?_)
                              obtain ⟨hP1, hK1, hD1⟩ := hB
                              rw [ht] at hP1
                              obtain ⟨hP, hD⟩ := va_join (wr := (wX cI cZ hX u ++ [(ho, .inl (cJ, 1, .inr (.inl f)))])) (w1 := wM cI cZ hM w136) hP hD [6, 7, 8] [0, 1, 2, 3, 4, 5, 9] rfl rfl (by decide) (by decide) hk1 hFc hP1 hD1
                              have hP : va_P D vwCl (wL cI cZ cJ hX hM ho u w136 f) H134 := hP.sub [0, 1, 2, 3, 4, 5, 7, 8, 9, 6] rfl
                              have hD : va_D (fun q : Nat => s.heap.size ≤ q) (wL cI cZ cJ hX hM ho u w136 f) := hD.sub [0, 1, 2, 3, 4, 5, 7, 8, 9, 6] (by decide) rfl
                              refine W.widen (k := 10 + (k + 1)) (n := 1548 + 6 * (k + 1)) (by omega) (by omega) ?_
                              clear hPc hDc hKc hFc hP1 hK1 hD1
                              obtain ⟨er135, ew136⟩ := hw
                              rw [ew136] at hP hD
                              refine lv_iload hx hb dL_law_584 (lv_at hl 1 rfl) ?_
                              refine lv_icmp_eq (tgt := 591) hx hb dL_law_586 (by decide) (fun _ => ?_) (fun c9 => absurd (by rw [er135]; show mt w133 = _; rw [ev]; exact hs1) c9)
                              refine lv_iload hx hb dL_law_591 (lv_at hl 1 rfl) ?_
                              refine lv_if_ne (tgt := 608) hx hb dL_law_593 (by decide) (fun _ => ?_) (fun c9 => absurd c9 (by decide))
                              refine lv_goto (tgt := 611) hx hb dL_law_608 (by decide) ?_
                              exact NX u w133 f H134 _ _ (by rw [ev]; exact hs3) hI9 hIw133 hP hD hS (lv_sub hl [2, 3, 4, 5, 6] rfl)
                          · skip
                            refine lv_tableOut (tgt := 611) hx hb dL_law_39 (by have h0 := ti_ne cs0 (n := 0) (by decide); have h1 := ti_ne cs1 (n := 1) (by decide); have h2 := ti_ne cs2 (n := 2) (by decide); have h3 := ti_ne cs3 (n := 3) (by decide); have h4 := ti_ne cs4 (n := 4) (by decide); have h5 := ti_ne cs5 (n := 5) (by decide); have h6 := ti_ne cs6 (n := 6) (by decide); have h7 := ti_ne cs7 (n := 7) (by decide); have h8 := ti_ne cs8 (n := 8) (by decide); have h9 := ti_ne cs9 (n := 9) (by decide); have h10 := ti_ne cs10 (n := 10) (by decide); omega) (by decide) ?_
                            refine W.widen (k := 10 + (k + 1)) (n := 1548 + 6 * (k + 1)) (by omega) (by omega) ?_
                            exact NX u v f H _ _ hR hIX (hIM.mono (by omega)) hP hD hS hl
