theorem dg_xA (u : XS) : xA (pX0_disengageWithWarning u) = xA u := by
  unfold pX0_disengageWithWarning
  split
  · rfl
  · simp only [xA_xA_, xA_xF_, xA_xM_, xA_xS_, xA_xl_, xA_xn_, xA_xa_, xA_xg_, xA_xe_, xA_xw_, xA_xC_, xA_xc_]
theorem dg_xF (u : XS) : xF (pX0_disengageWithWarning u) = xF u := by
  unfold pX0_disengageWithWarning
  split
  · rfl
  · simp only [xF_xA_, xF_xF_, xF_xM_, xF_xS_, xF_xl_, xF_xn_, xF_xa_, xF_xg_, xF_xe_, xF_xw_, xF_xC_, xF_xc_]
theorem dg_xM (u : XS) : xM (pX0_disengageWithWarning u) = xM u := by
  unfold pX0_disengageWithWarning
  split
  · rfl
  · simp only [xM_xA_, xM_xF_, xM_xM_, xM_xS_, xM_xl_, xM_xn_, xM_xa_, xM_xg_, xM_xe_, xM_xw_, xM_xC_, xM_xc_]
theorem dg_xS (u : XS) : xS (pX0_disengageWithWarning u) = xS u := by
  unfold pX0_disengageWithWarning
  split
  · rfl
  · simp only [xS_xA_, xS_xF_, xS_xM_, xS_xS_, xS_xl_, xS_xn_, xS_xa_, xS_xg_, xS_xe_, xS_xw_, xS_xC_, xS_xc_]
theorem dg_xl (u : XS) : xl (pX0_disengageWithWarning u) = xl u := by
  unfold pX0_disengageWithWarning
  split
  · rfl
  · simp only [xl_xA_, xl_xF_, xl_xM_, xl_xS_, xl_xl_, xl_xn_, xl_xa_, xl_xg_, xl_xe_, xl_xw_, xl_xC_, xl_xc_]
theorem dg_xn (u : XS) : xn (pX0_disengageWithWarning u) = xn u := by
  unfold pX0_disengageWithWarning
  split
  · rfl
  · simp only [xn_xA_, xn_xF_, xn_xM_, xn_xS_, xn_xl_, xn_xn_, xn_xa_, xn_xg_, xn_xe_, xn_xw_, xn_xC_, xn_xc_]
theorem dg_xa (u : XS) : xa (pX0_disengageWithWarning u) = xa u := by
  unfold pX0_disengageWithWarning
  split
  · rfl
  · simp only [xa_xA_, xa_xF_, xa_xM_, xa_xS_, xa_xl_, xa_xn_, xa_xa_, xa_xg_, xa_xe_, xa_xw_, xa_xC_, xa_xc_]
theorem dg_xg (u : XS) : xg (pX0_disengageWithWarning u) = xg u := by
  unfold pX0_disengageWithWarning
  split
  · rfl
  · simp only [xg_xA_, xg_xF_, xg_xM_, xg_xS_, xg_xl_, xg_xn_, xg_xa_, xg_xg_, xg_xe_, xg_xw_, xg_xC_, xg_xc_]
theorem dg_xC (u : XS) : xC (pX0_disengageWithWarning u) = xC u := by
  unfold pX0_disengageWithWarning
  split
  · rfl
  · simp only [xC_xA_, xC_xF_, xC_xM_, xC_xS_, xC_xl_, xC_xn_, xC_xa_, xC_xg_, xC_xe_, xC_xw_, xC_xC_, xC_xc_]
theorem dg_xc (u : XS) : xc (pX0_disengageWithWarning u) = xc u := by
  unfold pX0_disengageWithWarning
  split
  · rfl
  · simp only [xc_xA_, xc_xF_, xc_xM_, xc_xS_, xc_xl_, xc_xn_, xc_xa_, xc_xg_, xc_xe_, xc_xw_, xc_xC_, xc_xc_]
theorem da_xA (u : XS) : xA (pX0_disarmAll u) = xA u := by unfold pX0_disarmAll; simp only [xA_xA_, xA_xF_, xA_xM_, xA_xS_, xA_xl_, xA_xn_, xA_xa_, xA_xg_, xA_xe_, xA_xw_, xA_xC_, xA_xc_]
theorem da_xF (u : XS) : xF (pX0_disarmAll u) = xF u := by unfold pX0_disarmAll; simp only [xF_xA_, xF_xF_, xF_xM_, xF_xS_, xF_xl_, xF_xn_, xF_xa_, xF_xg_, xF_xe_, xF_xw_, xF_xC_, xF_xc_]
theorem da_xM (u : XS) : xM (pX0_disarmAll u) = xM u := by unfold pX0_disarmAll; simp only [xM_xA_, xM_xF_, xM_xM_, xM_xS_, xM_xl_, xM_xn_, xM_xa_, xM_xg_, xM_xe_, xM_xw_, xM_xC_, xM_xc_]
theorem da_xS (u : XS) : xS (pX0_disarmAll u) = xS u := by unfold pX0_disarmAll; simp only [xS_xA_, xS_xF_, xS_xM_, xS_xS_, xS_xl_, xS_xn_, xS_xa_, xS_xg_, xS_xe_, xS_xw_, xS_xC_, xS_xc_]
theorem da_xl (u : XS) : xl (pX0_disarmAll u) = xl u := by unfold pX0_disarmAll; simp only [xl_xA_, xl_xF_, xl_xM_, xl_xS_, xl_xl_, xl_xn_, xl_xa_, xl_xg_, xl_xe_, xl_xw_, xl_xC_, xl_xc_]
theorem da_xe (u : XS) : xe (pX0_disarmAll u) = xe u := by unfold pX0_disarmAll; simp only [xe_xA_, xe_xF_, xe_xM_, xe_xS_, xe_xl_, xe_xn_, xe_xa_, xe_xg_, xe_xe_, xe_xw_, xe_xC_, xe_xc_]
theorem da_xw (u : XS) : xw (pX0_disarmAll u) = xw u := by unfold pX0_disarmAll; simp only [xw_xA_, xw_xF_, xw_xM_, xw_xS_, xw_xl_, xw_xn_, xw_xa_, xw_xg_, xw_xe_, xw_xw_, xw_xC_, xw_xc_]
theorem da_xC (u : XS) : xC (pX0_disarmAll u) = xC u := by unfold pX0_disarmAll; simp only [xC_xA_, xC_xF_, xC_xM_, xC_xS_, xC_xl_, xC_xn_, xC_xa_, xC_xg_, xC_xe_, xC_xw_, xC_xC_, xC_xc_]
theorem da_xc (u : XS) : xc (pX0_disarmAll u) = xc u := by unfold pX0_disarmAll; simp only [xc_xA_, xc_xF_, xc_xM_, xc_xS_, xc_xl_, xc_xn_, xc_xa_, xc_xg_, xc_xe_, xc_xw_, xc_xC_, xc_xc_]
theorem da_xn (u : XS) : xn (pX0_disarmAll u) = 0 := by unfold pX0_disarmAll; simp only [xn_xA_, xn_xF_, xn_xM_, xn_xS_, xn_xl_, xn_xn_, xn_xa_, xn_xg_, xn_xe_, xn_xw_, xn_xC_, xn_xc_]
theorem da_xa (u : XS) : xa (pX0_disarmAll u) = 0 := by unfold pX0_disarmAll; simp only [xa_xA_, xa_xF_, xa_xM_, xa_xS_, xa_xl_, xa_xn_, xa_xa_, xa_xg_, xa_xe_, xa_xw_, xa_xC_, xa_xc_]
theorem da_xg (u : XS) : xg (pX0_disarmAll u) = 0 := by unfold pX0_disarmAll; simp only [xg_xA_, xg_xF_, xg_xM_, xg_xS_, xg_xl_, xg_xn_, xg_xa_, xg_xg_, xg_xe_, xg_xw_, xg_xC_, xg_xc_]
theorem sf_xA (u : XS) : xA (pX0_stopFlashing u) = xA u := by rw [sf_eq]; simp only [xA_xA_, xA_xF_, xA_xM_, xA_xS_, xA_xl_, xA_xn_, xA_xa_, xA_xg_, xA_xe_, xA_xw_, xA_xC_, xA_xc_]
theorem sf_xM (u : XS) : xM (pX0_stopFlashing u) = xM u := by rw [sf_eq]; simp only [xM_xA_, xM_xF_, xM_xM_, xM_xS_, xM_xl_, xM_xn_, xM_xa_, xM_xg_, xM_xe_, xM_xw_, xM_xC_, xM_xc_]
theorem sf_xS (u : XS) : xS (pX0_stopFlashing u) = xS u := by rw [sf_eq]; simp only [xS_xA_, xS_xF_, xS_xM_, xS_xS_, xS_xl_, xS_xn_, xS_xa_, xS_xg_, xS_xe_, xS_xw_, xS_xC_, xS_xc_]
theorem sf_xl (u : XS) : xl (pX0_stopFlashing u) = xl u := by rw [sf_eq]; simp only [xl_xA_, xl_xF_, xl_xM_, xl_xS_, xl_xl_, xl_xn_, xl_xa_, xl_xg_, xl_xe_, xl_xw_, xl_xC_, xl_xc_]
theorem sf_xn (u : XS) : xn (pX0_stopFlashing u) = xn u := by rw [sf_eq]; simp only [xn_xA_, xn_xF_, xn_xM_, xn_xS_, xn_xl_, xn_xn_, xn_xa_, xn_xg_, xn_xe_, xn_xw_, xn_xC_, xn_xc_]
theorem sf_xa (u : XS) : xa (pX0_stopFlashing u) = xa u := by rw [sf_eq]; simp only [xa_xA_, xa_xF_, xa_xM_, xa_xS_, xa_xl_, xa_xn_, xa_xa_, xa_xg_, xa_xe_, xa_xw_, xa_xC_, xa_xc_]
theorem sf_xg (u : XS) : xg (pX0_stopFlashing u) = xg u := by rw [sf_eq]; simp only [xg_xA_, xg_xF_, xg_xM_, xg_xS_, xg_xl_, xg_xn_, xg_xa_, xg_xg_, xg_xe_, xg_xw_, xg_xC_, xg_xc_]
theorem sf_xe (u : XS) : xe (pX0_stopFlashing u) = xe u := by rw [sf_eq]; simp only [xe_xA_, xe_xF_, xe_xM_, xe_xS_, xe_xl_, xe_xn_, xe_xa_, xe_xg_, xe_xe_, xe_xw_, xe_xC_, xe_xc_]
theorem sf_xw (u : XS) : xw (pX0_stopFlashing u) = xw u := by rw [sf_eq]; simp only [xw_xA_, xw_xF_, xw_xM_, xw_xS_, xw_xl_, xw_xn_, xw_xa_, xw_xg_, xw_xe_, xw_xw_, xw_xC_, xw_xc_]
theorem sf_xC (u : XS) : xC (pX0_stopFlashing u) = xC u := by rw [sf_eq]; simp only [xC_xA_, xC_xF_, xC_xM_, xC_xS_, xC_xl_, xC_xn_, xC_xa_, xC_xg_, xC_xe_, xC_xw_, xC_xC_, xC_xc_]
theorem sf_xc (u : XS) : xc (pX0_stopFlashing u) = xc u := by rw [sf_eq]; simp only [xc_xA_, xc_xF_, xc_xM_, xc_xS_, xc_xl_, xc_xn_, xc_xa_, xc_xg_, xc_xe_, xc_xw_, xc_xC_, xc_xc_]
theorem JJ_dis {u : XS} (h1 : xn u = 0) (h2 : xa u = 0) (h3 : xg u = 0) : JJ u := ⟨fun h => absurd h3 h, fun _ => ⟨h1, h2⟩, fun h => absurd h1 h⟩
theorem JJ_same {u w : XS} (h : JJ u) (h0 : xA w 0 = xA u 0) (h1 : xn w = xn u) (h2 : xa w = xa u) (h3 : xg w = xg u) : JJ w := by
  unfold JJ at h ⊢; rw [h0, h1, h2, h3]; exact h
theorem JJ_off (u : XS) (b : Int32) : JJ (pX0_turnOff u b) := by
  unfold pX0_turnOff
  exact JJ_dis (by rw [sf_xn, dg_xn, da_xn]) (by rw [sf_xa, dg_xa, da_xa]) (by rw [sf_xg, dg_xg, da_xg])
theorem JJ_base (u : XS) : JJ (pX0_goToBase u) := by
  unfold pX0_goToBase
  exact JJ_dis (by rw [da_xn]) (by rw [da_xa]) (by rw [da_xg])
theorem JJ_ver {u : XS} (h : JJ u) (m b : Int32) : JJ (pX0_change u 1 m b) := JJ_same h (by rw [c1_A0]) (by rw [ch_xn]) (by rw [ch_xa]) (by rw [ch_xg])
theorem lv_A0 (u : XS) (a b : Int32) : xA (pX0_leaveCourseFor u a b) 0 = a := by
  have e : xA (if xA u 1 = 6 then pX0_change (pX0_change u 0 a b) 1 1 b else pX0_change u 0 a b) 0 = a := by
    split
    · rw [c1_A0, c0_A0]
    · rw [c0_A0]
  rw [lc_eq]
  by_cases q : xa u = 0
  · rw [if_pos q, xA_xg_]; exact e
  · rw [if_neg q]; exact e
theorem lv_xn (u : XS) (a b : Int32) : xn (pX0_leaveCourseFor u a b) = xn u := by
  have e : xn (if xA u 1 = 6 then pX0_change (pX0_change u 0 a b) 1 1 b else pX0_change u 0 a b) = xn u := by
    split
    · rw [ch_xn, ch_xn]
    · rw [ch_xn]
  rw [lc_eq]
  by_cases q : xa u = 0
  · rw [if_pos q, xn_xg_]; exact e
  · rw [if_neg q]; exact e
theorem lv_xa (u : XS) (a b : Int32) : xa (pX0_leaveCourseFor u a b) = xa u := by
  have e : xa (if xA u 1 = 6 then pX0_change (pX0_change u 0 a b) 1 1 b else pX0_change u 0 a b) = xa u := by
    split
    · rw [ch_xa, ch_xa]
    · rw [ch_xa]
  rw [lc_eq]
  by_cases q : xa u = 0
  · rw [if_pos q, xa_xg_]; exact e
  · rw [if_neg q]; exact e
theorem lv_xg (u : XS) (a b : Int32) : xg (pX0_leaveCourseFor u a b) = if xa u = 0 then 0 else xg u := by
  rw [lc_eq]
  by_cases q : xa u = 0
  · rw [if_pos q, if_pos q, xg_xg_]
  · rw [if_neg q, if_neg q, w_xg]
theorem JJ_lv {u : XS} (h : JJ u) {a : Int32} (ha : ¬ a = 4) (b : Int32) : JJ (pX0_leaveCourseFor u a b) := by
  unfold JJ
  rw [lv_A0, lv_xn, lv_xa, lv_xg]
  refine ⟨fun q => ?_, fun q => absurd q ha, h.2.2⟩
  by_cases z : xa u = 0
  · rw [if_pos z] at q; exact absurd rfl q
  · exact Or.inl z
theorem le0 {x : Int32} (h : md8 x) : x ≤ 0 ↔ x = 0 := by
  obtain ⟨a, ha, rfl⟩ := h
  rcases (show a = 0 ∨ a = 1 ∨ a = 2 ∨ a = 3 ∨ a = 4 ∨ a = 5 ∨ a = 6 ∨ a = 7 by omega) with rfl | rfl | rfl | rfl | rfl | rfl | rfl | rfl <;> decide
theorem bad_iff {u : XS} {v : MS} (h : R0 u v) {x : Int32} (hx : bz x) : pX1_isBad v x = 0 ↔ ¬ xS u (Int32.toNatClampNeg x) = 0 := by
  have e6 := h.2.2.2.2.2.1
  have e7 := h.2.2.2.2.2.2.1
  unfold pX1_isBad
  rcases hx with rfl | rfl
  · rw [if_pos rfl, tn0, e6]
    by_cases q : xS u 0 = 0
    · rw [if_pos q]; exact ⟨fun z => absurd z (by decide), fun z => absurd q z⟩
    · rw [if_neg q]; exact ⟨fun _ => q, fun _ => rfl⟩
  · rw [if_neg (by decide), tn1, e7]
    by_cases q : xS u 1 = 0
    · rw [if_pos q]; exact ⟨fun z => absurd z (by decide), fun z => absurd q z⟩
    · rw [if_neg q]; exact ⟨fun _ => q, fun _ => rfl⟩
theorem on_0 (u : XS) : pX0_isOn u = 0 ↔ xA u 0 = 0 := by
  unfold pX0_isOn
  rw [tn0]
  by_cases q : xA u 0 = 0
  · rw [if_pos q]; exact ⟨fun _ => q, fun _ => rfl⟩
  · rw [if_neg q]; exact ⟨fun z => absurd z (by decide), fun z => absurd z q⟩
theorem any_iff {u : XS} {v : MS} (h : R0 u v) : pX0_isAnyChannelSound u = 0 ↔ (¬ mb v = 0 ∧ ¬ md v = 0) := by
  have e6 := h.2.2.2.2.2.1
  have e7 := h.2.2.2.2.2.2.1
  unfold pX0_isAnyChannelSound
  rw [tn0, tn1, e6, e7]
  by_cases q : xS u 0 = 0
  · rw [if_pos q, if_pos q]
    by_cases q2 : xS u 1 = 0
    · rw [if_pos q2, if_pos q2]; exact ⟨fun _ => ⟨by decide, by decide⟩, fun _ => rfl⟩
    · rw [if_neg q2, if_neg q2]; exact ⟨fun z => absurd z (by decide), fun z => absurd rfl z.2⟩
  · rw [if_neg q, if_neg q]; exact ⟨fun z => absurd z (by decide), fun z => absurd rfl z.1⟩
theorem ab_sz (x : Int32) : (if 0 ≤ x then x else 0 - x) = pX1_size x := by
  unfold pX1_size
  split
  · rfl
  · exact Int32.zero_sub x
theorem cw_iff {u : XS} {v : MS} (h : R0 u v) (r : Int32) : pX0_isCourseWithin u r = 0 ↔ ¬ (¬ cj v = 0 ∧ ¬ r < pX1_size (mV v (Int32.toNatClampNeg 0))) := by
  have e := h.2.2.2.2.1
  unfold pX0_isCourseWithin cj
  rw [ab_sz, e]
  by_cases q : xM u (Int32.toNatClampNeg 5) = 1
  · rw [if_pos q, if_pos q]
    by_cases q2 : r < pX1_size (xM u (Int32.toNatClampNeg 0))
    · rw [if_pos q2]; exact ⟨fun _ z => z.2 q2, fun _ => rfl⟩
    · rw [if_neg q2]; exact ⟨fun z => absurd z (by decide), fun z => absurd ⟨by decide, q2⟩ z⟩
  · rw [if_neg q, if_neg q]; exact ⟨fun _ z => z.1 rfl, fun _ => rfl⟩
theorem pw_iff {u : XS} {v : MS} (h : R0 u v) (r : Int32) : pX0_isPathWithin u r = 0 ↔ ¬ (¬ pj v = 0 ∧ ¬ r < pX1_size (mV v (Int32.toNatClampNeg 1))) := by
  have e := h.2.2.2.2.1
  unfold pX0_isPathWithin pj
  rw [ab_sz, e]
  by_cases q : xM u (Int32.toNatClampNeg 6) = 1
  · rw [if_pos q, if_pos q]
    by_cases q2 : r < pX1_size (xM u (Int32.toNatClampNeg 1))
    · rw [if_pos q2]; exact ⟨fun _ z => z.2 q2, fun _ => rfl⟩
    · rw [if_neg q2]; exact ⟨fun z => absurd z (by decide), fun z => absurd ⟨by decide, q2⟩ z⟩
  · rw [if_neg q, if_neg q]; exact ⟨fun _ z => z.1 rfl, fun _ => rfl⟩
theorem hw_iff {u : XS} {v : MS} (h : R0 u v) (r : Int32) : pX0_isHeightWithin u r = 0 ↔ r < pX1_apart v := by
  have e := h.2.2.2.2.1
  unfold pX0_isHeightWithin pX1_apart
  rw [ab_sz, e]
  by_cases q2 : r < pX1_size (xM u (Int32.toNatClampNeg 2) - xM u (Int32.toNatClampNeg 3))
  · rw [if_pos q2]; exact ⟨fun _ => q2, fun _ => rfl⟩
  · rw [if_neg q2]; exact ⟨fun z => absurd z (by decide), fun z => absurd z q2⟩
theorem tf_iff {u : XS} {v : MS} (h : R0 u v) : pX0_isTooFast u = 0 ↔ mV v (Int32.toNatClampNeg 4) ≤ 400 := by
  have e := h.2.2.2.2.1
  unfold pX0_isTooFast
  rw [e]
  by_cases q2 : xM u (Int32.toNatClampNeg 4) ≤ 400
  · rw [if_pos q2]; exact ⟨fun _ => q2, fun _ => rfl⟩
  · rw [if_neg q2]; exact ⟨fun z => absurd z (by decide), fun z => absurd z q2⟩
theorem cap_d : ∀ a : Fin 8, ((if nI a.val = 1 then (1 : Int32) else if nI a.val = 2 then 1 else if nI a.val = 3 then 1 else 0) = 0 ↔ (nI a.val ≤ 0 ∨ 4 ≤ nI a.val)) := by decide +kernel
theorem cap_iff {u : XS} {v : MS} (h : R0 u v) : pX0_isCaptureArmed u = 0 ↔ (mv v ≤ 0 ∨ 4 ≤ mv v) := by
  have e := h.2.1
  obtain ⟨a, ha, ea⟩ := h.2.2.2.2.2.2.2.2.2.2.2.2.2.1
  unfold pX0_isCaptureArmed
  rw [tn1, e, ea]
  exact cap_d ⟨a, ha⟩
def T10 (u : XS) : Int32 × XS := if (pX0_climbIsTooFast u).1 = 0 then (0, (pX0_climbIsTooFast u).2) else (1, (pX0_climbIsTooFast u).2)
def T9 (u : XS) : Int32 × XS := if (pX0_heightIsLost u).1 = 0 then T10 (pX0_heightIsLost u).2 else (1, (pX0_heightIsLost u).2)
def T8 (u : XS) : Int32 × XS := if (pX0_heightIsReached u).1 = 0 then T9 (pX0_heightIsReached u).2 else (1, (pX0_heightIsReached u).2)
def T7 (u : XS) : Int32 × XS := if (pX0_heightComesNear u).1 = 0 then T8 (pX0_heightComesNear u).2 else (1, (pX0_heightComesNear u).2)
def T6 (u : XS) : Int32 × XS := if (pX0_glideIsReached u).1 = 0 then T7 (pX0_glideIsReached u).2 else (1, (pX0_glideIsReached u).2)
def T5 (u : XS) : Int32 × XS := if (pX0_approachIsReached u).1 = 0 then T6 (pX0_approachIsReached u).2 else (1, (pX0_approachIsReached u).2)
def T4 (u : XS) : Int32 × XS := if (pX0_navIsReached u).1 = 0 then T5 (pX0_navIsReached u).2 else (1, (pX0_navIsReached u).2)
def T3 (u : XS) : Int32 × XS := if (pX0_pathIsLost u).1 = 0 then T4 (pX0_pathIsLost u).2 else (1, (pX0_pathIsLost u).2)
def T2 (u : XS) : Int32 × XS := if (pX0_courseIsLost u).1 = 0 then T3 (pX0_courseIsLost u).2 else (1, (pX0_courseIsLost u).2)
def T1 (u : XS) : Int32 × XS := if (pX0_leaderFails u).1 = 0 then T2 (pX0_leaderFails u).2 else (1, (pX0_leaderFails u).2)
theorem cab_T (u : XS) : pX0_comesAboutByItself u = T1 u := by
  unfold pX0_comesAboutByItself T1 T2 T3 T4 T5 T6 T7 T8 T9 T10
  rfl
theorem t1n {u : XS} (h : pX0_leaderFails u = (0, u)) : T1 u = T2 u := by unfold T1; rw [h, if_pos rfl]
theorem t1y {u w : XS} (h : pX0_leaderFails u = (1, w)) : T1 u = (1, w) := by unfold T1; rw [h, if_neg (show ¬ (1 : Int32) = 0 by decide)]
theorem t2n {u : XS} (h : pX0_courseIsLost u = (0, u)) : T2 u = T3 u := by unfold T2; rw [h, if_pos rfl]
theorem t2y {u w : XS} (h : pX0_courseIsLost u = (1, w)) : T2 u = (1, w) := by unfold T2; rw [h, if_neg (show ¬ (1 : Int32) = 0 by decide)]
theorem t3n {u : XS} (h : pX0_pathIsLost u = (0, u)) : T3 u = T4 u := by unfold T3; rw [h, if_pos rfl]
theorem t3y {u w : XS} (h : pX0_pathIsLost u = (1, w)) : T3 u = (1, w) := by unfold T3; rw [h, if_neg (show ¬ (1 : Int32) = 0 by decide)]
theorem t4n {u : XS} (h : pX0_navIsReached u = (0, u)) : T4 u = T5 u := by unfold T4; rw [h, if_pos rfl]
theorem t4y {u w : XS} (h : pX0_navIsReached u = (1, w)) : T4 u = (1, w) := by unfold T4; rw [h, if_neg (show ¬ (1 : Int32) = 0 by decide)]
theorem t5n {u : XS} (h : pX0_approachIsReached u = (0, u)) : T5 u = T6 u := by unfold T5; rw [h, if_pos rfl]
theorem t5y {u w : XS} (h : pX0_approachIsReached u = (1, w)) : T5 u = (1, w) := by unfold T5; rw [h, if_neg (show ¬ (1 : Int32) = 0 by decide)]
theorem t6n {u : XS} (h : pX0_glideIsReached u = (0, u)) : T6 u = T7 u := by unfold T6; rw [h, if_pos rfl]
theorem t6y {u w : XS} (h : pX0_glideIsReached u = (1, w)) : T6 u = (1, w) := by unfold T6; rw [h, if_neg (show ¬ (1 : Int32) = 0 by decide)]
theorem t7n {u : XS} (h : pX0_heightComesNear u = (0, u)) : T7 u = T8 u := by unfold T7; rw [h, if_pos rfl]
theorem t7y {u w : XS} (h : pX0_heightComesNear u = (1, w)) : T7 u = (1, w) := by unfold T7; rw [h, if_neg (show ¬ (1 : Int32) = 0 by decide)]
theorem t8n {u : XS} (h : pX0_heightIsReached u = (0, u)) : T8 u = T9 u := by unfold T8; rw [h, if_pos rfl]
theorem t8y {u w : XS} (h : pX0_heightIsReached u = (1, w)) : T8 u = (1, w) := by unfold T8; rw [h, if_neg (show ¬ (1 : Int32) = 0 by decide)]
theorem t9n {u : XS} (h : pX0_heightIsLost u = (0, u)) : T9 u = T10 u := by unfold T9; rw [h, if_pos rfl]
theorem t9y {u w : XS} (h : pX0_heightIsLost u = (1, w)) : T9 u = (1, w) := by unfold T9; rw [h, if_neg (show ¬ (1 : Int32) = 0 by decide)]
theorem t10n {u : XS} (h : pX0_climbIsTooFast u = (0, u)) : T10 u = (0, u) := by unfold T10; rw [h, if_pos rfl]
theorem t10y {u w : XS} (h : pX0_climbIsTooFast u = (1, w)) : T10 u = (1, w) := by unfold T10; rw [h, if_neg (show ¬ (1 : Int32) = 0 by decide)]
theorem F1n {n : Nat} {u : XS} {v : MS} (h : RI n u v) (c : ¬ C1 v) : pX0_leaderFails u = (0, u) := by
  unfold pX0_leaderFails
  by_cases q : pX0_isOn u = 0
  · rw [if_pos q]
  · rw [if_neg q]
    have hl : ¬ ml v ≤ 0 := by rw [h.1.1, le0 h.1.2.2.2.2.2.2.2.2.2.2.2.2.1]; exact fun z => q ((on_0 u).mpr z)
    have hb : pX1_isBad v (mr v) = 0 := by
      by_cases z : pX1_isBad v (mr v) = 0
      · exact z
      · exact absurd ⟨hl, z⟩ c
    rw [h.1.2.2.2.2.2.2.2.1, bad_iff h.1 h.2.1.1] at hb
    rw [if_neg hb]
theorem F1y {n : Nat} {u : XS} {v : MS} (h : RI n u v) (hn : n ≤ 2700000) (hJ : JJ u) (c : C1 v) : ∃ w, pX0_leaderFails u = (1, w) ∧ RI (n + 2) w (pX1_comes v 1) ∧ JJ w := by
  have hl : ¬ pX0_isOn u = 0 := by
    have := c.1
    rw [h.1.1, le0 h.1.2.2.2.2.2.2.2.2.2.2.2.2.1] at this
    exact fun z => this ((on_0 u).mp z)
  have er := h.1.2.2.2.2.2.2.2.1
  have hb := c.2
  rw [er, bad_iff h.1 h.2.1.1] at hb
  have hb : xS u (Int32.toNatClampNeg (xl u)) = 0 := by
    by_cases z : xS u (Int32.toNatClampNeg (xl u)) = 0
    · exact z
    · exact absurd z hb
  unfold pX0_leaderFails
  rw [if_neg hl, if_pos hb, co1, er]
  have hi := bad_iff h.1 (bz_s h.2.1.1)
  by_cases q : xS u (Int32.toNatClampNeg (1 - xl u)) = 0
  · rw [if_pos q, if_neg (fun z => (hi.mp z) q)]
    exact ⟨_, rfl, S_off h (by omega) bz1, JJ_off u 1⟩
  · rw [if_neg q, if_pos (hi.mpr q)]
    have hr := S_ld h (bz_s h.2.1.1)
    exact ⟨_, rfl, ⟨hr.1, hr.2.1, hr.2.2.mono (by omega)⟩, JJ_same hJ (by rw [xA_xl_]) (by rw [xn_xl_]) (by rw [xa_xl_]) (by rw [xg_xl_])⟩
theorem cj_iff {u : XS} {v : MS} (h : R0 u v) : cj v = 0 ↔ ¬ xM u (Int32.toNatClampNeg 5) = 1 := by
  unfold cj
  rw [h.2.2.2.2.1]
  by_cases q : xM u (Int32.toNatClampNeg 5) = 1
  · rw [if_pos q]; exact ⟨fun z => absurd z (by decide), fun z => absurd q z⟩
  · rw [if_neg q]; exact ⟨fun _ => q, fun _ => rfl⟩
theorem pj_iff {u : XS} {v : MS} (h : R0 u v) : pj v = 0 ↔ ¬ xM u (Int32.toNatClampNeg 6) = 1 := by
  unfold pj
  rw [h.2.2.2.2.1]
  by_cases q : xM u (Int32.toNatClampNeg 6) = 1
  · rw [if_pos q]; exact ⟨fun z => absurd z (by decide), fun z => absurd q z⟩
  · rw [if_neg q]; exact ⟨fun _ => q, fun _ => rfl⟩
theorem F2n {n : Nat} {u : XS} {v : MS} (h : RI n u v) (c : ¬ C2 v) : pX0_courseIsLost u = (0, u) := by
  unfold pX0_courseIsLost
  have e := h.1.1
  have hc := cj_iff h.1
  rw [tn0]
  by_cases q : xA u 0 = 3
  · rw [if_pos q]
    by_cases z : xM u (Int32.toNatClampNeg 5) = 1
    · rw [if_pos z]
    · exact absurd ⟨Or.inl (by rw [e]; exact q), hc.mpr z⟩ c
  · rw [if_neg q]
    by_cases q2 : xA u 0 = 4
    · rw [if_pos q2]
      by_cases z : xM u (Int32.toNatClampNeg 5) = 1
      · rw [if_pos z]
      · exact absurd ⟨Or.inr (by rw [e]; exact q2), hc.mpr z⟩ c
    · rw [if_neg q2]
theorem F2y {n : Nat} {u : XS} {v : MS} (h : RI n u v) (hn : n ≤ 2700000) (hJ : JJ u) (c : C2 v) : ∃ w, pX0_courseIsLost u = (1, w) ∧ RI (n + 2) w (pX1_comes v 2) ∧ JJ w := by
  refine ⟨pX0_leaveCourseFor u 1 1, ?_, S_co2 h (by omega) hJ.2.2, JJ_lv hJ (by decide) 1⟩
  unfold pX0_courseIsLost
  have z := (cj_iff h.1).mp c.2
  rw [tn0]
  have c1 := c.1
  rw [h.1.1] at c1
  by_cases q : xA u 0 = 3
  · rw [if_pos q, if_neg z]
  · rw [if_neg q]
    rcases c1 with q2 | q2
    · exact absurd q2 q
    · rw [if_pos q2, if_neg z]
theorem F3n {n : Nat} {u : XS} {v : MS} (h : RI n u v) (c : ¬ C3 v) : pX0_pathIsLost u = (0, u) := by
  unfold pX0_pathIsLost
  have e1 := h.1.1
  have e2 := h.1.2.1
  have hp := pj_iff h.1
  rw [tn0, tn1]
  by_cases q : xM u (Int32.toNatClampNeg 6) = 1
  · rw [if_pos q]
    by_cases q4 : xA u 0 = 4
    · rw [if_pos q4]
      split <;> rfl
    · rw [if_neg q4]
      by_cases q6 : xA u 1 = 6
      · exact absurd ⟨by rw [e2]; exact q6, Or.inr (by rw [e1]; exact q4)⟩ c
      · rw [if_neg q6]
  · rw [if_neg q]
    by_cases q6 : xA u 1 = 6
    · exact absurd ⟨by rw [e2]; exact q6, Or.inl (hp.mpr q)⟩ c
    · rw [if_neg q6]
theorem F3y {n : Nat} {u : XS} {v : MS} (h : RI n u v) (hn : n ≤ 2700000) (hJ : JJ u) (c : C3 v) : ∃ w, pX0_pathIsLost u = (1, w) ∧ RI (n + 2) w (pX1_comes v 3) ∧ JJ w := by
  have hs := S_ver h (by omega) md8_1 bz1
  refine ⟨pX0_change u 1 1 1, ?_, by rw [co3]; exact ⟨hs.1, hs.2.1, hs.2.2.mono (by omega)⟩, JJ_ver hJ 1 1⟩
  unfold pX0_pathIsLost
  have e1 := h.1.1
  have e2 := h.1.2.1
  have q6 : xA u 1 = 6 := by rw [← e2]; exact c.1
  rw [tn0, tn1]
  by_cases q : xM u (Int32.toNatClampNeg 6) = 1
  · rw [if_pos q]
    rcases c.2 with z | z
    · exact absurd q ((pj_iff h.1).mp z)
    · rw [e1] at z
      rw [if_neg z, if_pos q6]
  · rw [if_neg q, if_pos q6]
theorem am_1 {u : XS} {v : MS} (h : R0 u v) : ma v = 1 ↔ ¬ xn u = 0 := by
  rw [h.2.2.2.2.2.2.2.2.2.2.2.1]
  unfold arm
  by_cases q : xn u = 0
  · rw [if_pos q]
    refine ⟨fun z => ?_, fun z => absurd q z⟩
    by_cases q2 : xa u = 0
    · rw [if_pos q2] at z; exact absurd z (by decide)
    · rw [if_neg q2] at z; exact absurd z (by decide)
  · rw [if_neg q]; exact ⟨fun _ => q, fun _ => rfl⟩
theorem am_2 {u : XS} {v : MS} (h : R0 u v) (hx : xn u ≠ 0 → xa u = 0) : ma v = 2 ↔ ¬ xa u = 0 := by
  rw [h.2.2.2.2.2.2.2.2.2.2.2.1]
  unfold arm
  by_cases q : xn u = 0
  · rw [if_pos q]
    by_cases q2 : xa u = 0
    · rw [if_pos q2]; exact ⟨fun z => absurd z (by decide), fun z => absurd q2 z⟩
    · rw [if_neg q2]; exact ⟨fun _ => q2, fun _ => rfl⟩
  · rw [if_neg q]; exact ⟨fun z => absurd z (by decide), fun z => absurd (hx q) z⟩
theorem F4n {n : Nat} {u : XS} {v : MS} (h : RI n u v) (c : ¬ C4 v) : pX0_navIsReached u = (0, u) := by
  unfold pX0_navIsReached
  by_cases q : xn u = 0
  · rw [if_pos q]
  · rw [if_neg q]
    have : pX0_isCourseWithin u 150 = 0 := (cw_iff h.1 150).mpr (fun z => c ⟨(am_1 h.1).mpr q, z⟩)
    rw [if_pos this]
theorem F4y {n : Nat} {u : XS} {v : MS} (h : RI n u v) (hn : n ≤ 2700000) (hJ : JJ u) (c : C4 v) : ∃ w, pX0_navIsReached u = (1, w) ∧ RI (n + 2) w (pX1_comes v 4) ∧ JJ w := by
  have q := (am_1 h.1).mp c.1
  have hw : ¬ pX0_isCourseWithin u 150 = 0 := fun z => (cw_iff h.1 150).mp z c.2
  have ha : xa u = 0 := hJ.2.2 q
  have hs := S_nav0 (S_lat h (by omega) md8_3 bz1) (by rw [ch_xa]; exact ha)
  refine ⟨xn_ (pX0_change u 0 3 1) 0, ?_, by rw [co4, ltc_ma]; exact ⟨hs.1, hs.2.1, hs.2.2.mono (by omega)⟩, ?_⟩
  · unfold pX0_navIsReached; rw [if_neg q, if_neg hw]
  · unfold JJ
    rw [xg_xn_, xa_xn_, xA_xn_, xn_xn_, ch_xg, ch_xa, c0_A0]
    refine ⟨fun z => ?_, fun z => absurd z (by decide), fun z => absurd rfl z⟩
    rcases hJ.1 z with z2 | z2
    · exact Or.inl z2
    · exact absurd (hJ.2.1 z2).1 q
theorem F5n {n : Nat} {u : XS} {v : MS} (h : RI n u v) (hJ : JJ u) (c : ¬ C5 v) : pX0_approachIsReached u = (0, u) := by
  unfold pX0_approachIsReached
  by_cases q : xa u = 0
  · rw [if_pos q]
  · rw [if_neg q]
    have : pX0_isCourseWithin u 100 = 0 := (cw_iff h.1 100).mpr (fun z => c ⟨(am_2 h.1 hJ.2.2).mpr q, z⟩)
    rw [if_pos this]
theorem F5y {n : Nat} {u : XS} {v : MS} (h : RI n u v) (hn : n ≤ 2700000) (hJ : JJ u) (c : C5 v) : ∃ w, pX0_approachIsReached u = (1, w) ∧ RI (n + 2) w (pX1_comes v 5) ∧ JJ w := by
  have q := (am_2 h.1 hJ.2.2).mp c.1
  have hw : ¬ pX0_isCourseWithin u 100 = 0 := fun z => (cw_iff h.1 100).mp z c.2
  have hnn : xn u = 0 := by
    by_cases z : xn u = 0
    · exact z
    · exact absurd (hJ.2.2 z) q
  have hs := S_xa0 (S_lat h (by omega) md8_4 bz1) (by rw [ch_xn]; exact hnn)
  refine ⟨xa_ (pX0_change u 0 4 1) 0, ?_, by rw [co5, ltc_ma]; exact ⟨hs.1, hs.2.1, hs.2.2.mono (by omega)⟩, ?_⟩
  · unfold pX0_approachIsReached; rw [if_neg q, if_neg hw]
  · unfold JJ
    rw [xg_xa_, xa_xa_, xA_xa_, xn_xa_, ch_xg, ch_xn, c0_A0]
    exact ⟨fun _ => Or.inr rfl, fun _ => ⟨hnn, rfl⟩, fun _ => rfl⟩
theorem F6n {n : Nat} {u : XS} {v : MS} (h : RI n u v) (c : ¬ C6 v) : pX0_glideIsReached u = (0, u) := by
  unfold pX0_glideIsReached
  rw [tn0]
  have eg := h.1.2.2.2.2.2.2.2.2.2.2.1
  by_cases q : xg u = 0
  · rw [if_pos q]
  · rw [if_neg q]
    by_cases q4 : xA u 0 = 4
    · rw [if_pos q4]
      have : pX0_isPathWithin u 80 = 0 := (pw_iff h.1 80).mpr (fun z => c ⟨by rw [eg]; exact q, by rw [h.1.1]; exact q4, z⟩)
      rw [if_pos this]
    · rw [if_neg q4]
theorem F6y {n : Nat} {u : XS} {v : MS} (h : RI n u v) (hn : n ≤ 2700000) (hJ : JJ u) (c : C6 v) : ∃ w, pX0_glideIsReached u = (1, w) ∧ RI (n + 2) w (pX1_comes v 6) ∧ JJ w := by
  have eg := h.1.2.2.2.2.2.2.2.2.2.2.1
  have q : ¬ xg u = 0 := by rw [← eg]; exact c.1
  have q4 : xA u 0 = 4 := by rw [← h.1.1]; exact c.2.1
  have hw : ¬ pX0_isPathWithin u 80 = 0 := fun z => (pw_iff h.1 80).mp z c.2.2
  have hs := S_gl (S_ver h (by omega) md8_6 bz1) bz0
  refine ⟨xg_ (pX0_change u 1 6 1) 0, ?_, by rw [co6, vtc_mg]; exact ⟨hs.1, hs.2.1, hs.2.2.mono (by omega)⟩, ?_⟩
  · unfold pX0_glideIsReached; rw [tn0, if_neg q, if_pos q4, if_neg hw]
  · unfold JJ
    rw [xg_xg_, xa_xg_, xA_xg_, xn_xg_, ch_xa, ch_xn, c1_A0]
    exact ⟨fun z => absurd rfl z, hJ.2.1, hJ.2.2⟩
theorem F7n {n : Nat} {u : XS} {v : MS} (h : RI n u v) (c : ¬ C7 v) : pX0_heightComesNear u = (0, u) := by
  unfold pX0_heightComesNear
  by_cases q : pX0_isCaptureArmed u = 0
  · rw [if_pos q]
  · rw [if_neg q]
    have hq : ¬ (mv v ≤ 0 ∨ 4 ≤ mv v) := fun z => q ((cap_iff h.1).mpr z)
    by_cases q2 : pX0_isHeightWithin u 400 = 0
    · rw [if_pos q2]
    · exact absurd ⟨fun z => hq (Or.inl z), fun z => hq (Or.inr z), fun z => q2 ((hw_iff h.1 400).mpr z)⟩ c
theorem F7y {n : Nat} {u : XS} {v : MS} (h : RI n u v) (hn : n ≤ 2700000) (hJ : JJ u) (c : C7 v) : ∃ w, pX0_heightComesNear u = (1, w) ∧ RI (n + 2) w (pX1_comes v 7) ∧ JJ w := by
  have hs := S_ver h (by omega) md8_5 bz1
  refine ⟨pX0_change u 1 5 1, ?_, by rw [co7]; exact ⟨hs.1, hs.2.1, hs.2.2.mono (by omega)⟩, JJ_ver hJ 5 1⟩
  unfold pX0_heightComesNear
  rw [if_neg (fun z => ((cap_iff h.1).mp z).elim c.1 c.2.1), if_neg (fun z => c.2.2 ((hw_iff h.1 400).mp z))]
theorem F8n {n : Nat} {u : XS} {v : MS} (h : RI n u v) (c : ¬ C8 v) : pX0_heightIsReached u = (0, u) := by
  unfold pX0_heightIsReached
  rw [tn1]
  by_cases q : xA u 1 = 5
  · rw [if_pos q]
    by_cases q2 : pX0_isHeightWithin u 20 = 0
    · rw [if_pos q2]
    · exact absurd ⟨by rw [h.1.2.1]; exact q, fun z => q2 ((hw_iff h.1 20).mpr z)⟩ c
  · rw [if_neg q]
theorem F8y {n : Nat} {u : XS} {v : MS} (h : RI n u v) (hn : n ≤ 2700000) (hJ : JJ u) (c : C8 v) : ∃ w, pX0_heightIsReached u = (1, w) ∧ RI (n + 2) w (pX1_comes v 8) ∧ JJ w := by
  have hs := S_ver h (by omega) md8_4 bz1
  refine ⟨pX0_change u 1 4 1, ?_, by rw [co8]; exact ⟨hs.1, hs.2.1, hs.2.2.mono (by omega)⟩, JJ_ver hJ 4 1⟩
  unfold pX0_heightIsReached
  rw [tn1, if_pos (by rw [← h.1.2.1]; exact c.1), if_neg (fun z => c.2 ((hw_iff h.1 20).mp z))]
theorem F9n {n : Nat} {u : XS} {v : MS} (h : RI n u v) (c : ¬ C9 v) : pX0_heightIsLost u = (0, u) := by
  unfold pX0_heightIsLost
  rw [tn1]
  by_cases q : xA u 1 = 5
  · rw [if_pos q]
    by_cases q2 : pX0_isHeightWithin u 400 = 0
    · exact absurd ⟨by rw [h.1.2.1]; exact q, Int32.not_le.mpr ((hw_iff h.1 400).mp q2)⟩ c
    · rw [if_neg q2]
  · rw [if_neg q]
theorem F9y {n : Nat} {u : XS} {v : MS} (h : RI n u v) (hn : n ≤ 2700000) (hJ : JJ u) (c : C9 v) : ∃ w, pX0_heightIsLost u = (1, w) ∧ RI (n + 2) w (pX1_comes v 9) ∧ JJ w := by
  have hs := S_ver h (by omega) md8_1 bz1
  refine ⟨pX0_change u 1 1 1, ?_, by rw [co9]; exact ⟨hs.1, hs.2.1, hs.2.2.mono (by omega)⟩, JJ_ver hJ 1 1⟩
  unfold pX0_heightIsLost
  rw [tn1, if_pos (by rw [← h.1.2.1]; exact c.1), if_pos ((hw_iff h.1 400).mpr (Int32.not_le.mp c.2))]
theorem F10n {n : Nat} {u : XS} {v : MS} (h : RI n u v) (c : ¬ C10 v) : pX0_climbIsTooFast u = (0, u) := by
  unfold pX0_climbIsTooFast
  rw [tn1]
  by_cases q : xA u 1 = 2
  · rw [if_pos q]
    by_cases q2 : pX0_isTooFast u = 0
    · rw [if_pos q2]
    · exact absurd ⟨by rw [h.1.2.1]; exact q, fun z => q2 ((tf_iff h.1).mpr z)⟩ c
  · rw [if_neg q]
theorem F10y {n : Nat} {u : XS} {v : MS} (h : RI n u v) (hn : n ≤ 2700000) (hJ : JJ u) (c : C10 v) : ∃ w, pX0_climbIsTooFast u = (1, w) ∧ RI (n + 2) w (pX1_comes v 10) ∧ JJ w := by
  have hs := S_ver h (by omega) md8_3 bz1
  refine ⟨pX0_change u 1 3 1, ?_, by rw [co10]; exact ⟨hs.1, hs.2.1, hs.2.2.mono (by omega)⟩, JJ_ver hJ 3 1⟩
  unfold pX0_climbIsTooFast
  rw [tn1, if_pos (by rw [← h.1.2.1]; exact c.1), if_neg (fun z => c.2 ((tf_iff h.1).mp z))]
def G64 (u : XS) : Prop := xA u 1 = 6 → xA u 0 = 4
theorem rule_sim {n : Nat} {u : XS} {v : MS} (h : RI n u v) (hn : n ≤ 2700000) (hJ : JJ u) : (pX1_rule v ≤ 0 ∧ pX0_comesAboutByItself u = (0, u) ∧ G64 u) ∨ (¬ pX1_rule v ≤ 0 ∧ ∃ w, pX0_comesAboutByItself u = (1, w) ∧ RI (n + 2) w (pX1_comes v (pX1_rule v)) ∧ JJ w) := by
  rw [cab_T, rule_top]
  by_cases c1 : C1 v
  · rw [r1y c1]; obtain ⟨w, e1, e2, e3⟩ := F1y h hn hJ c1; exact Or.inr ⟨by decide, w, t1y e1, e2, e3⟩
  · rw [r1n c1, t1n (F1n h c1)]
    by_cases c2 : C2 v
    · rw [r2y c2]; obtain ⟨w, e1, e2, e3⟩ := F2y h hn hJ c2; exact Or.inr ⟨by decide, w, t2y e1, e2, e3⟩
    · rw [r2n c2, t2n (F2n h c2)]
      by_cases c3 : C3 v
      · rw [r3y c3]; obtain ⟨w, e1, e2, e3⟩ := F3y h hn hJ c3; exact Or.inr ⟨by decide, w, t3y e1, e2, e3⟩
      · rw [r3n c3, t3n (F3n h c3)]
        by_cases c4 : C4 v
        · rw [r4y c4]; obtain ⟨w, e1, e2, e3⟩ := F4y h hn hJ c4; exact Or.inr ⟨by decide, w, t4y e1, e2, e3⟩
        · rw [r4n c4, t4n (F4n h c4)]
          by_cases c5 : C5 v
          · rw [r5y c5]; obtain ⟨w, e1, e2, e3⟩ := F5y h hn hJ c5; exact Or.inr ⟨by decide, w, t5y e1, e2, e3⟩
          · rw [r5n c5, t5n (F5n h hJ c5)]
            by_cases c6 : C6 v
            · rw [r6y c6]; obtain ⟨w, e1, e2, e3⟩ := F6y h hn hJ c6; exact Or.inr ⟨by decide, w, t6y e1, e2, e3⟩
            · rw [r6n c6, t6n (F6n h c6)]
              by_cases c7 : C7 v
              · rw [r7y c7]; obtain ⟨w, e1, e2, e3⟩ := F7y h hn hJ c7; exact Or.inr ⟨by decide, w, t7y e1, e2, e3⟩
              · rw [r7n c7, t7n (F7n h c7)]
                by_cases c8 : C8 v
                · rw [r8y c8]; obtain ⟨w, e1, e2, e3⟩ := F8y h hn hJ c8; exact Or.inr ⟨by decide, w, t8y e1, e2, e3⟩
                · rw [r8n c8, t8n (F8n h c8)]
                  by_cases c9 : C9 v
                  · rw [r9y c9]; obtain ⟨w, e1, e2, e3⟩ := F9y h hn hJ c9; exact Or.inr ⟨by decide, w, t9y e1, e2, e3⟩
                  · rw [r9n c9, t9n (F9n h c9)]
                    by_cases c10 : C10 v
                    · rw [r10y c10]; obtain ⟨w, e1, e2, e3⟩ := F10y h hn hJ c10; exact Or.inr ⟨by decide, w, t10y e1, e2, e3⟩
                    · rw [r10n c10, t10n (F10n h c10)]
                      refine Or.inl ⟨by decide, rfl, fun q => ?_⟩
                      by_cases z : xA u 0 = 4
                      · exact z
                      · exact absurd ⟨by rw [h.1.2.1]; exact q, Or.inr (by rw [h.1.1]; exact z)⟩ c3
theorem loop_sim : ∀ (k j n : Nat) (u : XS) (v : MS) (c : Int32), doneM k v → RI n u v → JJ u → k ≤ j → n + 2 * k ≤ 2700000 → (loopX j u c).1 = (loopM k v c).1 ∧ RI (n + 2 * k) (loopX j u c).2 (loopM k v c).2 ∧ JJ (loopX j u c).2 ∧ G64 (loopX j u c).2 := by
  intro k
  induction k with
  | zero =>
    intro j n u v c hd h hJ hj hn
    have hr : pX1_rule v ≤ 0 := hd
    rcases rule_sim h (by omega) hJ with ⟨-, e, g⟩ | ⟨hr2, -⟩
    · cases j with
      | zero => exact ⟨rfl, h, hJ, g⟩
      | succ j =>
        rw [loopX_s, e, if_pos rfl]
        exact ⟨rfl, h, hJ, g⟩
    · exact absurd hr hr2
  | succ k ih =>
    intro j n u v c hd h hJ hj hn
    cases j with
    | zero => exact absurd hj (by omega)
    | succ j =>
      rcases rule_sim h (by omega) hJ with ⟨hr, e, g⟩ | ⟨hr, w, e, h2, hJ2⟩
      · rw [loopX_s, loopM_s, if_pos hr, e, if_pos rfl]
        exact ⟨rfl, ⟨h.1, h.2.1, h.2.2.mono (by omega)⟩, hJ, g⟩
      · rw [loopX_s, loopM_s, if_neg hr, e, if_neg (show ¬ (1 : Int32) = 0 by decide)]
        have hd2 : doneM k (pX1_comes v (pX1_rule v)) := hd hr
        have := ih j (n + 2) w (pX1_comes v (pX1_rule v)) (c + 1) hd2 h2 hJ2 (by omega) (by omega)
        rw [show n + 2 + 2 * k = n + 2 * (k + 1) by omega] at this
        exact this
theorem settle_sim {n : Nat} {u : XS} {v : MS} (h : RI n u v) (hn : n ≤ 2600000) (hJ : JJ u) : (pX0_settle u).1 = (pX1_settle v).1 ∧ RI (n + 40) (pX0_settle u).2 (pX1_settle v).2 ∧ JJ (pX0_settle u).2 ∧ G64 (pX0_settle u).2 := by
  unfold pX0_settle pX1_settle
  exact loop_sim 20 1000 n u v 0 (done20 v) h hJ (by omega) (by omega)
