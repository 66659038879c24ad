def loopM : Nat → MS → Int32 → Int32 × MS
  | 0, u, c => (c, u)
  | k + 1, u, c => if pX1_rule u ≤ 0 then (c, u) else loopM k (pX1_comes u (pX1_rule u)) (c + 1)
theorem loopM_s (k : Nat) (u : MS) (c : Int32) : loopM (k + 1) u c = if pX1_rule u ≤ 0 then (c, u) else loopM k (pX1_comes u (pX1_rule u)) (c + 1) := rfl
def doneM : Nat → MS → Prop
  | 0, u => pX1_rule u ≤ 0
  | k + 1, u => ¬ pX1_rule u ≤ 0 → doneM k (pX1_comes u (pX1_rule u))

theorem kp_mt (u : MS) (a b c d : Int32) : mt (pX1_keep u a b c d) = mt u := by unfold pX1_keep; split <;> simp only [mt_mt_, mt_ml_, mt_mv_, mt_ma_, mt_mg_, mt_me_, mt_mw_, mt_mb_, mt_md_, mt_mr_, mt_mV_, mt_mf_, mt_mh_, mt_mk_, mt_mR_]
theorem kp_ml (u : MS) (a b c d : Int32) : ml (pX1_keep u a b c d) = ml u := by unfold pX1_keep; split <;> simp only [ml_mt_, ml_ml_, ml_mv_, ml_ma_, ml_mg_, ml_me_, ml_mw_, ml_mb_, ml_md_, ml_mr_, ml_mV_, ml_mf_, ml_mh_, ml_mk_, ml_mR_]
theorem kp_mv (u : MS) (a b c d : Int32) : mv (pX1_keep u a b c d) = mv u := by unfold pX1_keep; split <;> simp only [mv_mt_, mv_ml_, mv_mv_, mv_ma_, mv_mg_, mv_me_, mv_mw_, mv_mb_, mv_md_, mv_mr_, mv_mV_, mv_mf_, mv_mh_, mv_mk_, mv_mR_]
theorem kp_ma (u : MS) (a b c d : Int32) : ma (pX1_keep u a b c d) = ma u := by unfold pX1_keep; split <;> simp only [ma_mt_, ma_ml_, ma_mv_, ma_ma_, ma_mg_, ma_me_, ma_mw_, ma_mb_, ma_md_, ma_mr_, ma_mV_, ma_mf_, ma_mh_, ma_mk_, ma_mR_]
theorem kp_mg (u : MS) (a b c d : Int32) : mg (pX1_keep u a b c d) = mg u := by unfold pX1_keep; split <;> simp only [mg_mt_, mg_ml_, mg_mv_, mg_ma_, mg_mg_, mg_me_, mg_mw_, mg_mb_, mg_md_, mg_mr_, mg_mV_, mg_mf_, mg_mh_, mg_mk_, mg_mR_]
theorem kp_me (u : MS) (a b c d : Int32) : me (pX1_keep u a b c d) = me u := by unfold pX1_keep; split <;> simp only [me_mt_, me_ml_, me_mv_, me_ma_, me_mg_, me_me_, me_mw_, me_mb_, me_md_, me_mr_, me_mV_, me_mf_, me_mh_, me_mk_, me_mR_]
theorem kp_mw (u : MS) (a b c d : Int32) : mw (pX1_keep u a b c d) = mw u := by unfold pX1_keep; split <;> simp only [mw_mt_, mw_ml_, mw_mv_, mw_ma_, mw_mg_, mw_me_, mw_mw_, mw_mb_, mw_md_, mw_mr_, mw_mV_, mw_mf_, mw_mh_, mw_mk_, mw_mR_]
theorem kp_mb (u : MS) (a b c d : Int32) : mb (pX1_keep u a b c d) = mb u := by unfold pX1_keep; split <;> simp only [mb_mt_, mb_ml_, mb_mv_, mb_ma_, mb_mg_, mb_me_, mb_mw_, mb_mb_, mb_md_, mb_mr_, mb_mV_, mb_mf_, mb_mh_, mb_mk_, mb_mR_]
theorem kp_md (u : MS) (a b c d : Int32) : md (pX1_keep u a b c d) = md u := by unfold pX1_keep; split <;> simp only [md_mt_, md_ml_, md_mv_, md_ma_, md_mg_, md_me_, md_mw_, md_mb_, md_md_, md_mr_, md_mV_, md_mf_, md_mh_, md_mk_, md_mR_]
theorem kp_mr (u : MS) (a b c d : Int32) : mr (pX1_keep u a b c d) = mr u := by unfold pX1_keep; split <;> simp only [mr_mt_, mr_ml_, mr_mv_, mr_ma_, mr_mg_, mr_me_, mr_mw_, mr_mb_, mr_md_, mr_mr_, mr_mV_, mr_mf_, mr_mh_, mr_mk_, mr_mR_]
theorem kp_mV (u : MS) (a b c d : Int32) : mV (pX1_keep u a b c d) = mV u := by unfold pX1_keep; split <;> simp only [mV_mt_, mV_ml_, mV_mv_, mV_ma_, mV_mg_, mV_me_, mV_mw_, mV_mb_, mV_md_, mV_mr_, mV_mV_, mV_mf_, mV_mh_, mV_mk_, mV_mR_]
theorem kp_mf (u : MS) (a b c d : Int32) : mf (pX1_keep u a b c d) = mf u := by unfold pX1_keep; split <;> simp only [mf_mt_, mf_ml_, mf_mv_, mf_ma_, mf_mg_, mf_me_, mf_mw_, mf_mb_, mf_md_, mf_mr_, mf_mV_, mf_mf_, mf_mh_, mf_mk_, mf_mR_]
theorem kp_mh (u : MS) (a b c d : Int32) : mh (pX1_keep u a b c d) = mh u := by unfold pX1_keep; split <;> simp only [mh_mt_, mh_ml_, mh_mv_, mh_ma_, mh_mg_, mh_me_, mh_mw_, mh_mb_, mh_md_, mh_mr_, mh_mV_, mh_mf_, mh_mh_, mh_mk_, mh_mR_]
def kR (f : Nat → Int32) (k a b c d : Int32) : Nat → Int32 := if 300 ≤ k then f else upd (upd (upd (upd f (Int32.toNatClampNeg (4 * k)) a) (Int32.toNatClampNeg (4 * k + 1)) b) (Int32.toNatClampNeg (4 * k + 2)) c) (Int32.toNatClampNeg (4 * k + 3)) d
theorem kp_mR (u : MS) (a b c d : Int32) : mR (pX1_keep u a b c d) = kR (mR u) (mk u) a b c d := by
  unfold pX1_keep kR
  by_cases h : (300 : Int32) ≤ mk u
  · rw [if_pos h, if_pos h, mR_mk_]
  · rw [if_neg h, if_neg h]; simp only [mR_mk_, mR_mR_, mk_mR_]
theorem kp_mk (u : MS) (a b c d : Int32) : mk (pX1_keep u a b c d) = mk u + 1 := by unfold pX1_keep; split <;> simp only [mk_mt_, mk_ml_, mk_mv_, mk_ma_, mk_mg_, mk_me_, mk_mw_, mk_mb_, mk_md_, mk_mr_, mk_mV_, mk_mf_, mk_mh_, mk_mk_, mk_mR_]
theorem lt_mt (u : MS) (m b : Int32) : mt (pX1_lateralTo u m b) = mt u := by
  unfold pX1_lateralTo
  by_cases h : ml u = m
  · rw [if_pos h]
  · rw [if_neg h]; split <;> simp only [mt_mt_, mt_ml_, mt_mv_, mt_ma_, mt_mg_, mt_me_, mt_mw_, mt_mb_, mt_md_, mt_mr_, mt_mV_, mt_mf_, mt_mh_, mt_mk_, mt_mR_, kp_mt]
theorem lt_ml (u : MS) (m b : Int32) : ml (pX1_lateralTo u m b) = m := by
  unfold pX1_lateralTo
  by_cases h : ml u = m
  · rw [if_pos h]; exact h
  · rw [if_neg h]; split <;> simp only [ml_mt_, ml_ml_, ml_mv_, ml_ma_, ml_mg_, ml_me_, ml_mw_, ml_mb_, ml_md_, ml_mr_, ml_mV_, ml_mf_, ml_mh_, ml_mk_, ml_mR_]
theorem lt_mv (u : MS) (m b : Int32) : mv (pX1_lateralTo u m b) = mv u := by
  unfold pX1_lateralTo
  by_cases h : ml u = m
  · rw [if_pos h]
  · rw [if_neg h]; split <;> simp only [mv_mt_, mv_ml_, mv_mv_, mv_ma_, mv_mg_, mv_me_, mv_mw_, mv_mb_, mv_md_, mv_mr_, mv_mV_, mv_mf_, mv_mh_, mv_mk_, mv_mR_, kp_mv]
theorem lt_ma (u : MS) (m b : Int32) : ma (pX1_lateralTo u m b) = ma u := by
  unfold pX1_lateralTo
  by_cases h : ml u = m
  · rw [if_pos h]
  · rw [if_neg h]; split <;> simp only [ma_mt_, ma_ml_, ma_mv_, ma_ma_, ma_mg_, ma_me_, ma_mw_, ma_mb_, ma_md_, ma_mr_, ma_mV_, ma_mf_, ma_mh_, ma_mk_, ma_mR_, kp_ma]
theorem lt_mg (u : MS) (m b : Int32) : mg (pX1_lateralTo u m b) = mg u := by
  unfold pX1_lateralTo
  by_cases h : ml u = m
  · rw [if_pos h]
  · rw [if_neg h]; split <;> simp only [mg_mt_, mg_ml_, mg_mv_, mg_ma_, mg_mg_, mg_me_, mg_mw_, mg_mb_, mg_md_, mg_mr_, mg_mV_, mg_mf_, mg_mh_, mg_mk_, mg_mR_, kp_mg]
theorem lt_me (u : MS) (m b : Int32) : me (pX1_lateralTo u m b) = me u := by
  unfold pX1_lateralTo
  by_cases h : ml u = m
  · rw [if_pos h]
  · rw [if_neg h]; split <;> simp only [me_mt_, me_ml_, me_mv_, me_ma_, me_mg_, me_me_, me_mw_, me_mb_, me_md_, me_mr_, me_mV_, me_mf_, me_mh_, me_mk_, me_mR_, kp_me]
theorem lt_mw (u : MS) (m b : Int32) : mw (pX1_lateralTo u m b) = mw u := by
  unfold pX1_lateralTo
  by_cases h : ml u = m
  · rw [if_pos h]
  · rw [if_neg h]; split <;> simp only [mw_mt_, mw_ml_, mw_mv_, mw_ma_, mw_mg_, mw_me_, mw_mw_, mw_mb_, mw_md_, mw_mr_, mw_mV_, mw_mf_, mw_mh_, mw_mk_, mw_mR_, kp_mw]
theorem lt_mb (u : MS) (m b : Int32) : mb (pX1_lateralTo u m b) = mb u := by
  unfold pX1_lateralTo
  by_cases h : ml u = m
  · rw [if_pos h]
  · rw [if_neg h]; split <;> simp only [mb_mt_, mb_ml_, mb_mv_, mb_ma_, mb_mg_, mb_me_, mb_mw_, mb_mb_, mb_md_, mb_mr_, mb_mV_, mb_mf_, mb_mh_, mb_mk_, mb_mR_, kp_mb]
theorem lt_md (u : MS) (m b : Int32) : md (pX1_lateralTo u m b) = md u := by
  unfold pX1_lateralTo
  by_cases h : ml u = m
  · rw [if_pos h]
  · rw [if_neg h]; split <;> simp only [md_mt_, md_ml_, md_mv_, md_ma_, md_mg_, md_me_, md_mw_, md_mb_, md_md_, md_mr_, md_mV_, md_mf_, md_mh_, md_mk_, md_mR_, kp_md]
theorem lt_mr (u : MS) (m b : Int32) : mr (pX1_lateralTo u m b) = mr u := by
  unfold pX1_lateralTo
  by_cases h : ml u = m
  · rw [if_pos h]
  · rw [if_neg h]; split <;> simp only [mr_mt_, mr_ml_, mr_mv_, mr_ma_, mr_mg_, mr_me_, mr_mw_, mr_mb_, mr_md_, mr_mr_, mr_mV_, mr_mf_, mr_mh_, mr_mk_, mr_mR_, kp_mr]
theorem lt_mV (u : MS) (m b : Int32) : mV (pX1_lateralTo u m b) = mV u := by
  unfold pX1_lateralTo
  by_cases h : ml u = m
  · rw [if_pos h]
  · rw [if_neg h]; split <;> simp only [mV_mt_, mV_ml_, mV_mv_, mV_ma_, mV_mg_, mV_me_, mV_mw_, mV_mb_, mV_md_, mV_mr_, mV_mV_, mV_mf_, mV_mh_, mV_mk_, mV_mR_, kp_mV]
theorem lt_mf (u : MS) (m b : Int32) : mf (pX1_lateralTo u m b) = if ml u = m then mf u else if b = 1 then 10 else mf u := by
  unfold pX1_lateralTo
  by_cases h : ml u = m
  · rw [if_pos h, if_pos h]
  · rw [if_neg h, if_neg h]
    by_cases h2 : b = 1
    · rw [if_pos h2, if_pos h2]; simp only [mf_mt_, mf_ml_, mf_mv_, mf_ma_, mf_mg_, mf_me_, mf_mw_, mf_mb_, mf_md_, mf_mr_, mf_mV_, mf_mf_, mf_mh_, mf_mk_, mf_mR_]
    · rw [if_neg h2, if_neg h2]; simp only [mf_mt_, mf_ml_, mf_mv_, mf_ma_, mf_mg_, mf_me_, mf_mw_, mf_mb_, mf_md_, mf_mr_, mf_mV_, mf_mf_, mf_mh_, mf_mk_, mf_mR_, kp_mf]
theorem lt_mh (u : MS) (m b : Int32) : mh (pX1_lateralTo u m b) = mh u := by
  unfold pX1_lateralTo
  by_cases h : ml u = m
  · rw [if_pos h]
  · rw [if_neg h]; split <;> simp only [mh_mt_, mh_ml_, mh_mv_, mh_ma_, mh_mg_, mh_me_, mh_mw_, mh_mb_, mh_md_, mh_mr_, mh_mV_, mh_mf_, mh_mh_, mh_mk_, mh_mR_, kp_mh]
theorem lt_mk (u : MS) (m b : Int32) : mk (pX1_lateralTo u m b) = if ml u = m then mk u else mk u + 1 := by
  unfold pX1_lateralTo
  by_cases h : ml u = m
  · rw [if_pos h, if_pos h]
  · rw [if_neg h, if_neg h]; split <;> simp only [mk_mt_, mk_ml_, mk_mv_, mk_ma_, mk_mg_, mk_me_, mk_mw_, mk_mb_, mk_md_, mk_mr_, mk_mV_, mk_mf_, mk_mh_, mk_mk_, mk_mR_, kp_mk]
theorem lt_mR (u : MS) (m b : Int32) : mR (pX1_lateralTo u m b) = if ml u = m then mR u else kR (mR u) (mk u) 0 (ml u) m b := by
  unfold pX1_lateralTo
  by_cases h : ml u = m
  · rw [if_pos h, if_pos h]
  · rw [if_neg h, if_neg h]; split <;> simp only [mR_mt_, mR_ml_, mR_mv_, mR_ma_, mR_mg_, mR_me_, mR_mw_, mR_mb_, mR_md_, mR_mr_, mR_mV_, mR_mf_, mR_mh_, mR_mk_, mR_mR_, kp_mR]
theorem ltc_ma (u : MS) (x m b : Int32) : pX1_lateralTo (ma_ u x) m b = ma_ (pX1_lateralTo u m b) x := MS_ext (by simp only [lt_mt, mt_ma_, ml_ma_, mv_ma_, mk_ma_]) (by simp only [lt_ml, ml_ma_, ml_ma_, mv_ma_, mk_ma_]) (by simp only [lt_mv, mv_ma_, ml_ma_, mv_ma_, mk_ma_]) (by simp only [lt_ma, ma_ma_, ml_ma_, mv_ma_, mk_ma_]) (by simp only [lt_mg, mg_ma_, ml_ma_, mv_ma_, mk_ma_]) (by simp only [lt_me, me_ma_, ml_ma_, mv_ma_, mk_ma_]) (by simp only [lt_mw, mw_ma_, ml_ma_, mv_ma_, mk_ma_]) (by simp only [lt_mb, mb_ma_, ml_ma_, mv_ma_, mk_ma_]) (by simp only [lt_md, md_ma_, ml_ma_, mv_ma_, mk_ma_]) (by simp only [lt_mr, mr_ma_, ml_ma_, mv_ma_, mk_ma_]) (by simp only [lt_mV, mV_ma_, ml_ma_, mv_ma_, mk_ma_]) (by simp only [lt_mf, mf_ma_, ml_ma_, mv_ma_, mk_ma_]; rfl) (by simp only [lt_mh, mh_ma_, ml_ma_, mv_ma_, mk_ma_]) (by simp only [lt_mk, mk_ma_, ml_ma_, mv_ma_, mk_ma_]; rfl) (by simp only [lt_mR, mR_ma_, ml_ma_, mv_ma_, mk_ma_]; rfl)
theorem ltc_mg (u : MS) (x m b : Int32) : pX1_lateralTo (mg_ u x) m b = mg_ (pX1_lateralTo u m b) x := MS_ext (by simp only [lt_mt, mt_mg_, ml_mg_, mv_mg_, mk_mg_]) (by simp only [lt_ml, ml_mg_, ml_mg_, mv_mg_, mk_mg_]) (by simp only [lt_mv, mv_mg_, ml_mg_, mv_mg_, mk_mg_]) (by simp only [lt_ma, ma_mg_, ml_mg_, mv_mg_, mk_mg_]) (by simp only [lt_mg, mg_mg_, ml_mg_, mv_mg_, mk_mg_]) (by simp only [lt_me, me_mg_, ml_mg_, mv_mg_, mk_mg_]) (by simp only [lt_mw, mw_mg_, ml_mg_, mv_mg_, mk_mg_]) (by simp only [lt_mb, mb_mg_, ml_mg_, mv_mg_, mk_mg_]) (by simp only [lt_md, md_mg_, ml_mg_, mv_mg_, mk_mg_]) (by simp only [lt_mr, mr_mg_, ml_mg_, mv_mg_, mk_mg_]) (by simp only [lt_mV, mV_mg_, ml_mg_, mv_mg_, mk_mg_]) (by simp only [lt_mf, mf_mg_, ml_mg_, mv_mg_, mk_mg_]; rfl) (by simp only [lt_mh, mh_mg_, ml_mg_, mv_mg_, mk_mg_]) (by simp only [lt_mk, mk_mg_, ml_mg_, mv_mg_, mk_mg_]; rfl) (by simp only [lt_mR, mR_mg_, ml_mg_, mv_mg_, mk_mg_]; rfl)
theorem ltc_me (u : MS) (x m b : Int32) : pX1_lateralTo (me_ u x) m b = me_ (pX1_lateralTo u m b) x := MS_ext (by simp only [lt_mt, mt_me_, ml_me_, mv_me_, mk_me_]) (by simp only [lt_ml, ml_me_, ml_me_, mv_me_, mk_me_]) (by simp only [lt_mv, mv_me_, ml_me_, mv_me_, mk_me_]) (by simp only [lt_ma, ma_me_, ml_me_, mv_me_, mk_me_]) (by simp only [lt_mg, mg_me_, ml_me_, mv_me_, mk_me_]) (by simp only [lt_me, me_me_, ml_me_, mv_me_, mk_me_]) (by simp only [lt_mw, mw_me_, ml_me_, mv_me_, mk_me_]) (by simp only [lt_mb, mb_me_, ml_me_, mv_me_, mk_me_]) (by simp only [lt_md, md_me_, ml_me_, mv_me_, mk_me_]) (by simp only [lt_mr, mr_me_, ml_me_, mv_me_, mk_me_]) (by simp only [lt_mV, mV_me_, ml_me_, mv_me_, mk_me_]) (by simp only [lt_mf, mf_me_, ml_me_, mv_me_, mk_me_]; rfl) (by simp only [lt_mh, mh_me_, ml_me_, mv_me_, mk_me_]) (by simp only [lt_mk, mk_me_, ml_me_, mv_me_, mk_me_]; rfl) (by simp only [lt_mR, mR_me_, ml_me_, mv_me_, mk_me_]; rfl)
theorem ltc_mw (u : MS) (x m b : Int32) : pX1_lateralTo (mw_ u x) m b = mw_ (pX1_lateralTo u m b) x := MS_ext (by simp only [lt_mt, mt_mw_, ml_mw_, mv_mw_, mk_mw_]) (by simp only [lt_ml, ml_mw_, ml_mw_, mv_mw_, mk_mw_]) (by simp only [lt_mv, mv_mw_, ml_mw_, mv_mw_, mk_mw_]) (by simp only [lt_ma, ma_mw_, ml_mw_, mv_mw_, mk_mw_]) (by simp only [lt_mg, mg_mw_, ml_mw_, mv_mw_, mk_mw_]) (by simp only [lt_me, me_mw_, ml_mw_, mv_mw_, mk_mw_]) (by simp only [lt_mw, mw_mw_, ml_mw_, mv_mw_, mk_mw_]) (by simp only [lt_mb, mb_mw_, ml_mw_, mv_mw_, mk_mw_]) (by simp only [lt_md, md_mw_, ml_mw_, mv_mw_, mk_mw_]) (by simp only [lt_mr, mr_mw_, ml_mw_, mv_mw_, mk_mw_]) (by simp only [lt_mV, mV_mw_, ml_mw_, mv_mw_, mk_mw_]) (by simp only [lt_mf, mf_mw_, ml_mw_, mv_mw_, mk_mw_]; rfl) (by simp only [lt_mh, mh_mw_, ml_mw_, mv_mw_, mk_mw_]) (by simp only [lt_mk, mk_mw_, ml_mw_, mv_mw_, mk_mw_]; rfl) (by simp only [lt_mR, mR_mw_, ml_mw_, mv_mw_, mk_mw_]; rfl)
theorem ltc_no (u : MS) (m b : Int32) : pX1_lateralTo (pX1_noneArmed u) m b = pX1_noneArmed (pX1_lateralTo u m b) := by unfold pX1_noneArmed; rw [ltc_mg, ltc_ma]
theorem vt_mt (u : MS) (m b : Int32) : mt (pX1_verticalTo u m b) = mt u := by
  unfold pX1_verticalTo
  by_cases h : mv u = m
  · rw [if_pos h]
  · rw [if_neg h]; split <;> simp only [mt_mt_, mt_ml_, mt_mv_, mt_ma_, mt_mg_, mt_me_, mt_mw_, mt_mb_, mt_md_, mt_mr_, mt_mV_, mt_mf_, mt_mh_, mt_mk_, mt_mR_, kp_mt]
theorem vt_ml (u : MS) (m b : Int32) : ml (pX1_verticalTo u m b) = ml u := by
  unfold pX1_verticalTo
  by_cases h : mv u = m
  · rw [if_pos h]
  · rw [if_neg h]; split <;> simp only [ml_mt_, ml_ml_, ml_mv_, ml_ma_, ml_mg_, ml_me_, ml_mw_, ml_mb_, ml_md_, ml_mr_, ml_mV_, ml_mf_, ml_mh_, ml_mk_, ml_mR_, kp_ml]
theorem vt_mv (u : MS) (m b : Int32) : mv (pX1_verticalTo u m b) = m := by
  unfold pX1_verticalTo
  by_cases h : mv u = m
  · rw [if_pos h]; exact h
  · rw [if_neg h]; split <;> simp only [mv_mt_, mv_ml_, mv_mv_, mv_ma_, mv_mg_, mv_me_, mv_mw_, mv_mb_, mv_md_, mv_mr_, mv_mV_, mv_mf_, mv_mh_, mv_mk_, mv_mR_]
theorem vt_ma (u : MS) (m b : Int32) : ma (pX1_verticalTo u m b) = ma u := by
  unfold pX1_verticalTo
  by_cases h : mv u = m
  · rw [if_pos h]
  · rw [if_neg h]; split <;> simp only [ma_mt_, ma_ml_, ma_mv_, ma_ma_, ma_mg_, ma_me_, ma_mw_, ma_mb_, ma_md_, ma_mr_, ma_mV_, ma_mf_, ma_mh_, ma_mk_, ma_mR_, kp_ma]
theorem vt_mg (u : MS) (m b : Int32) : mg (pX1_verticalTo u m b) = mg u := by
  unfold pX1_verticalTo
  by_cases h : mv u = m
  · rw [if_pos h]
  · rw [if_neg h]; split <;> simp only [mg_mt_, mg_ml_, mg_mv_, mg_ma_, mg_mg_, mg_me_, mg_mw_, mg_mb_, mg_md_, mg_mr_, mg_mV_, mg_mf_, mg_mh_, mg_mk_, mg_mR_, kp_mg]
theorem vt_me (u : MS) (m b : Int32) : me (pX1_verticalTo u m b) = me u := by
  unfold pX1_verticalTo
  by_cases h : mv u = m
  · rw [if_pos h]
  · rw [if_neg h]; split <;> simp only [me_mt_, me_ml_, me_mv_, me_ma_, me_mg_, me_me_, me_mw_, me_mb_, me_md_, me_mr_, me_mV_, me_mf_, me_mh_, me_mk_, me_mR_, kp_me]
theorem vt_mw (u : MS) (m b : Int32) : mw (pX1_verticalTo u m b) = mw u := by
  unfold pX1_verticalTo
  by_cases h : mv u = m
  · rw [if_pos h]
  · rw [if_neg h]; split <;> simp only [mw_mt_, mw_ml_, mw_mv_, mw_ma_, mw_mg_, mw_me_, mw_mw_, mw_mb_, mw_md_, mw_mr_, mw_mV_, mw_mf_, mw_mh_, mw_mk_, mw_mR_, kp_mw]
theorem vt_mb (u : MS) (m b : Int32) : mb (pX1_verticalTo u m b) = mb u := by
  unfold pX1_verticalTo
  by_cases h : mv u = m
  · rw [if_pos h]
  · rw [if_neg h]; split <;> simp only [mb_mt_, mb_ml_, mb_mv_, mb_ma_, mb_mg_, mb_me_, mb_mw_, mb_mb_, mb_md_, mb_mr_, mb_mV_, mb_mf_, mb_mh_, mb_mk_, mb_mR_, kp_mb]
theorem vt_md (u : MS) (m b : Int32) : md (pX1_verticalTo u m b) = md u := by
  unfold pX1_verticalTo
  by_cases h : mv u = m
  · rw [if_pos h]
  · rw [if_neg h]; split <;> simp only [md_mt_, md_ml_, md_mv_, md_ma_, md_mg_, md_me_, md_mw_, md_mb_, md_md_, md_mr_, md_mV_, md_mf_, md_mh_, md_mk_, md_mR_, kp_md]
theorem vt_mr (u : MS) (m b : Int32) : mr (pX1_verticalTo u m b) = mr u := by
  unfold pX1_verticalTo
  by_cases h : mv u = m
  · rw [if_pos h]
  · rw [if_neg h]; split <;> simp only [mr_mt_, mr_ml_, mr_mv_, mr_ma_, mr_mg_, mr_me_, mr_mw_, mr_mb_, mr_md_, mr_mr_, mr_mV_, mr_mf_, mr_mh_, mr_mk_, mr_mR_, kp_mr]
theorem vt_mV (u : MS) (m b : Int32) : mV (pX1_verticalTo u m b) = mV u := by
  unfold pX1_verticalTo
  by_cases h : mv u = m
  · rw [if_pos h]
  · rw [if_neg h]; split <;> simp only [mV_mt_, mV_ml_, mV_mv_, mV_ma_, mV_mg_, mV_me_, mV_mw_, mV_mb_, mV_md_, mV_mr_, mV_mV_, mV_mf_, mV_mh_, mV_mk_, mV_mR_, kp_mV]
theorem vt_mf (u : MS) (m b : Int32) : mf (pX1_verticalTo u m b) = mf u := by
  unfold pX1_verticalTo
  by_cases h : mv u = m
  · rw [if_pos h]
  · rw [if_neg h]; split <;> simp only [mf_mt_, mf_ml_, mf_mv_, mf_ma_, mf_mg_, mf_me_, mf_mw_, mf_mb_, mf_md_, mf_mr_, mf_mV_, mf_mf_, mf_mh_, mf_mk_, mf_mR_, kp_mf]
theorem vt_mh (u : MS) (m b : Int32) : mh (pX1_verticalTo u m b) = if mv u = m then mh u else if b = 1 then 10 else mh u := by
  unfold pX1_verticalTo
  by_cases h : mv u = m
  · rw [if_pos h, if_pos h]
  · rw [if_neg h, if_neg h]
    by_cases h2 : b = 1
    · rw [if_pos h2, if_pos h2]; simp only [mh_mt_, mh_ml_, mh_mv_, mh_ma_, mh_mg_, mh_me_, mh_mw_, mh_mb_, mh_md_, mh_mr_, mh_mV_, mh_mf_, mh_mh_, mh_mk_, mh_mR_]
    · rw [if_neg h2, if_neg h2]; simp only [mh_mt_, mh_ml_, mh_mv_, mh_ma_, mh_mg_, mh_me_, mh_mw_, mh_mb_, mh_md_, mh_mr_, mh_mV_, mh_mf_, mh_mh_, mh_mk_, mh_mR_, kp_mh]
theorem vt_mk (u : MS) (m b : Int32) : mk (pX1_verticalTo u m b) = if mv u = m then mk u else mk u + 1 := by
  unfold pX1_verticalTo
  by_cases h : mv u = m
  · rw [if_pos h, if_pos h]
  · rw [if_neg h, if_neg h]; split <;> simp only [mk_mt_, mk_ml_, mk_mv_, mk_ma_, mk_mg_, mk_me_, mk_mw_, mk_mb_, mk_md_, mk_mr_, mk_mV_, mk_mf_, mk_mh_, mk_mk_, mk_mR_, kp_mk]
theorem vt_mR (u : MS) (m b : Int32) : mR (pX1_verticalTo u m b) = if mv u = m then mR u else kR (mR u) (mk u) 1 (mv u) m b := by
  unfold pX1_verticalTo
  by_cases h : mv u = m
  · rw [if_pos h, if_pos h]
  · rw [if_neg h, if_neg h]; split <;> simp only [mR_mt_, mR_ml_, mR_mv_, mR_ma_, mR_mg_, mR_me_, mR_mw_, mR_mb_, mR_md_, mR_mr_, mR_mV_, mR_mf_, mR_mh_, mR_mk_, mR_mR_, kp_mR]
theorem vtc_ma (u : MS) (x m b : Int32) : pX1_verticalTo (ma_ u x) m b = ma_ (pX1_verticalTo u m b) x := MS_ext (by simp only [vt_mt, mt_ma_, ml_ma_, mv_ma_, mk_ma_]) (by simp only [vt_ml, ml_ma_, ml_ma_, mv_ma_, mk_ma_]) (by simp only [vt_mv, mv_ma_, ml_ma_, mv_ma_, mk_ma_]) (by simp only [vt_ma, ma_ma_, ml_ma_, mv_ma_, mk_ma_]) (by simp only [vt_mg, mg_ma_, ml_ma_, mv_ma_, mk_ma_]) (by simp only [vt_me, me_ma_, ml_ma_, mv_ma_, mk_ma_]) (by simp only [vt_mw, mw_ma_, ml_ma_, mv_ma_, mk_ma_]) (by simp only [vt_mb, mb_ma_, ml_ma_, mv_ma_, mk_ma_]) (by simp only [vt_md, md_ma_, ml_ma_, mv_ma_, mk_ma_]) (by simp only [vt_mr, mr_ma_, ml_ma_, mv_ma_, mk_ma_]) (by simp only [vt_mV, mV_ma_, ml_ma_, mv_ma_, mk_ma_]) (by simp only [vt_mf, mf_ma_, ml_ma_, mv_ma_, mk_ma_]) (by simp only [vt_mh, mh_ma_, ml_ma_, mv_ma_, mk_ma_]; rfl) (by simp only [vt_mk, mk_ma_, ml_ma_, mv_ma_, mk_ma_]; rfl) (by simp only [vt_mR, mR_ma_, ml_ma_, mv_ma_, mk_ma_]; rfl)
theorem vtc_mg (u : MS) (x m b : Int32) : pX1_verticalTo (mg_ u x) m b = mg_ (pX1_verticalTo u m b) x := MS_ext (by simp only [vt_mt, mt_mg_, ml_mg_, mv_mg_, mk_mg_]) (by simp only [vt_ml, ml_mg_, ml_mg_, mv_mg_, mk_mg_]) (by simp only [vt_mv, mv_mg_, ml_mg_, mv_mg_, mk_mg_]) (by simp only [vt_ma, ma_mg_, ml_mg_, mv_mg_, mk_mg_]) (by simp only [vt_mg, mg_mg_, ml_mg_, mv_mg_, mk_mg_]) (by simp only [vt_me, me_mg_, ml_mg_, mv_mg_, mk_mg_]) (by simp only [vt_mw, mw_mg_, ml_mg_, mv_mg_, mk_mg_]) (by simp only [vt_mb, mb_mg_, ml_mg_, mv_mg_, mk_mg_]) (by simp only [vt_md, md_mg_, ml_mg_, mv_mg_, mk_mg_]) (by simp only [vt_mr, mr_mg_, ml_mg_, mv_mg_, mk_mg_]) (by simp only [vt_mV, mV_mg_, ml_mg_, mv_mg_, mk_mg_]) (by simp only [vt_mf, mf_mg_, ml_mg_, mv_mg_, mk_mg_]) (by simp only [vt_mh, mh_mg_, ml_mg_, mv_mg_, mk_mg_]; rfl) (by simp only [vt_mk, mk_mg_, ml_mg_, mv_mg_, mk_mg_]; rfl) (by simp only [vt_mR, mR_mg_, ml_mg_, mv_mg_, mk_mg_]; rfl)
theorem vtc_me (u : MS) (x m b : Int32) : pX1_verticalTo (me_ u x) m b = me_ (pX1_verticalTo u m b) x := MS_ext (by simp only [vt_mt, mt_me_, ml_me_, mv_me_, mk_me_]) (by simp only [vt_ml, ml_me_, ml_me_, mv_me_, mk_me_]) (by simp only [vt_mv, mv_me_, ml_me_, mv_me_, mk_me_]) (by simp only [vt_ma, ma_me_, ml_me_, mv_me_, mk_me_]) (by simp only [vt_mg, mg_me_, ml_me_, mv_me_, mk_me_]) (by simp only [vt_me, me_me_, ml_me_, mv_me_, mk_me_]) (by simp only [vt_mw, mw_me_, ml_me_, mv_me_, mk_me_]) (by simp only [vt_mb, mb_me_, ml_me_, mv_me_, mk_me_]) (by simp only [vt_md, md_me_, ml_me_, mv_me_, mk_me_]) (by simp only [vt_mr, mr_me_, ml_me_, mv_me_, mk_me_]) (by simp only [vt_mV, mV_me_, ml_me_, mv_me_, mk_me_]) (by simp only [vt_mf, mf_me_, ml_me_, mv_me_, mk_me_]) (by simp only [vt_mh, mh_me_, ml_me_, mv_me_, mk_me_]; rfl) (by simp only [vt_mk, mk_me_, ml_me_, mv_me_, mk_me_]; rfl) (by simp only [vt_mR, mR_me_, ml_me_, mv_me_, mk_me_]; rfl)
theorem vtc_mw (u : MS) (x m b : Int32) : pX1_verticalTo (mw_ u x) m b = mw_ (pX1_verticalTo u m b) x := MS_ext (by simp only [vt_mt, mt_mw_, ml_mw_, mv_mw_, mk_mw_]) (by simp only [vt_ml, ml_mw_, ml_mw_, mv_mw_, mk_mw_]) (by simp only [vt_mv, mv_mw_, ml_mw_, mv_mw_, mk_mw_]) (by simp only [vt_ma, ma_mw_, ml_mw_, mv_mw_, mk_mw_]) (by simp only [vt_mg, mg_mw_, ml_mw_, mv_mw_, mk_mw_]) (by simp only [vt_me, me_mw_, ml_mw_, mv_mw_, mk_mw_]) (by simp only [vt_mw, mw_mw_, ml_mw_, mv_mw_, mk_mw_]) (by simp only [vt_mb, mb_mw_, ml_mw_, mv_mw_, mk_mw_]) (by simp only [vt_md, md_mw_, ml_mw_, mv_mw_, mk_mw_]) (by simp only [vt_mr, mr_mw_, ml_mw_, mv_mw_, mk_mw_]) (by simp only [vt_mV, mV_mw_, ml_mw_, mv_mw_, mk_mw_]) (by simp only [vt_mf, mf_mw_, ml_mw_, mv_mw_, mk_mw_]) (by simp only [vt_mh, mh_mw_, ml_mw_, mv_mw_, mk_mw_]; rfl) (by simp only [vt_mk, mk_mw_, ml_mw_, mv_mw_, mk_mw_]; rfl) (by simp only [vt_mR, mR_mw_, ml_mw_, mv_mw_, mk_mw_]; rfl)
theorem vtc_no (u : MS) (m b : Int32) : pX1_verticalTo (pX1_noneArmed u) m b = pX1_noneArmed (pX1_verticalTo u m b) := by unfold pX1_noneArmed; rw [vtc_mg, vtc_ma]
