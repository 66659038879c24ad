theorem JJ_lat {u : XS} (h : JJ u) (h4 : ¬ xA u 0 = 4) {m : Int32} (hm : ¬ m = 4) (b : Int32) : JJ (pX0_change u 0 m b) := by
  unfold JJ
  rw [ch_xg, ch_xa, ch_xn, c0_A0]
  exact ⟨fun z => (h.1 z).elim Or.inl (fun q => absurd q h4), fun z => absurd z hm, h.2.2⟩
theorem mg2 (w : MS) (x y : Int32) : mg_ (mg_ w x) y = mg_ w y := MS_ext (by simp only [mt_mt_, mt_ml_, mt_mv_, mt_ma_, mt_mg_, mt_me_, mt_mw_, mt_mb_, mt_md_, mt_mr_, mt_mV_, mt_mf_, mt_mh_, mt_mk_, mt_mR_]) (by simp only [ml_mt_, ml_ml_, ml_mv_, ml_ma_, ml_mg_, ml_me_, ml_mw_, ml_mb_, ml_md_, ml_mr_, ml_mV_, ml_mf_, ml_mh_, ml_mk_, ml_mR_]) (by simp only [mv_mt_, mv_ml_, mv_mv_, mv_ma_, mv_mg_, mv_me_, mv_mw_, mv_mb_, mv_md_, mv_mr_, mv_mV_, mv_mf_, mv_mh_, mv_mk_, mv_mR_]) (by simp only [ma_mt_, ma_ml_, ma_mv_, ma_ma_, ma_mg_, ma_me_, ma_mw_, ma_mb_, ma_md_, ma_mr_, ma_mV_, ma_mf_, ma_mh_, ma_mk_, ma_mR_]) (by simp only [mg_mt_, mg_ml_, mg_mv_, mg_ma_, mg_mg_, mg_me_, mg_mw_, mg_mb_, mg_md_, mg_mr_, mg_mV_, mg_mf_, mg_mh_, mg_mk_, mg_mR_]) (by simp only [me_mt_, me_ml_, me_mv_, me_ma_, me_mg_, me_me_, me_mw_, me_mb_, me_md_, me_mr_, me_mV_, me_mf_, me_mh_, me_mk_, me_mR_]) (by simp only [mw_mt_, mw_ml_, mw_mv_, mw_ma_, mw_mg_, mw_me_, mw_mw_, mw_mb_, mw_md_, mw_mr_, mw_mV_, mw_mf_, mw_mh_, mw_mk_, mw_mR_]) (by simp only [mb_mt_, mb_ml_, mb_mv_, mb_ma_, mb_mg_, mb_me_, mb_mw_, mb_mb_, mb_md_, mb_mr_, mb_mV_, mb_mf_, mb_mh_, mb_mk_, mb_mR_]) (by simp only [md_mt_, md_ml_, md_mv_, md_ma_, md_mg_, md_me_, md_mw_, md_mb_, md_md_, md_mr_, md_mV_, md_mf_, md_mh_, md_mk_, md_mR_]) (by simp only [mr_mt_, mr_ml_, mr_mv_, mr_ma_, mr_mg_, mr_me_, mr_mw_, mr_mb_, mr_md_, mr_mr_, mr_mV_, mr_mf_, mr_mh_, mr_mk_, mr_mR_]) (by simp only [mV_mt_, mV_ml_, mV_mv_, mV_ma_, mV_mg_, mV_me_, mV_mw_, mV_mb_, mV_md_, mV_mr_, mV_mV_, mV_mf_, mV_mh_, mV_mk_, mV_mR_]) (by simp only [mf_mt_, mf_ml_, mf_mv_, mf_ma_, mf_mg_, mf_me_, mf_mw_, mf_mb_, mf_md_, mf_mr_, mf_mV_, mf_mf_, mf_mh_, mf_mk_, mf_mR_]) (by simp only [mh_mt_, mh_ml_, mh_mv_, mh_ma_, mh_mg_, mh_me_, mh_mw_, mh_mb_, mh_md_, mh_mr_, mh_mV_, mh_mf_, mh_mh_, mh_mk_, mh_mR_]) (by simp only [mk_mt_, mk_ml_, mk_mv_, mk_ma_, mk_mg_, mk_me_, mk_mw_, mk_mb_, mk_md_, mk_mr_, mk_mV_, mk_mf_, mk_mh_, mk_mk_, mk_mR_]) (by simp only [mR_mt_, mR_ml_, mR_mv_, mR_ma_, mR_mg_, mR_me_, mR_mw_, mR_mb_, mR_md_, mR_mr_, mR_mV_, mR_mf_, mR_mh_, mR_mk_, mR_mR_])
theorem B0 {n : Nat} {u : XS} {v : MS} (h : RI n u v) (hn : n ≤ 2800000) (hJ : JJ u) (hG : G64 u) : RI (n + 2) (pX0_obeyHeading u) (pX1_button v 0) ∧ JJ (pX0_obeyHeading u) := by
  unfold pX0_obeyHeading pX1_button
  rw [tn0, if_pos rfl]
  have e := h.1.1
  have bg := h.2.2.1
  by_cases c : xA u 0 = 2
  · rw [if_pos c, if_pos (show ml v = 2 by rw [e]; exact c), oa_n (by rw [e, c]; decide) bg]
    exact ⟨RI_m (S_lat h (by omega) md8_1 bz0) (by omega), JJ_lat hJ (by rw [c]; decide) (by decide) 0⟩
  · rw [if_neg c, if_neg (show ¬ ml v = 2 by rw [e]; exact c)]
    refine ⟨?_, JJ_lv hJ (by decide) 0⟩
    by_cases c4 : xA u 0 = 4
    · rw [oa_y (show ml v = 4 by rw [e]; exact c4)]
      exact S_leave h hn md8_2 bz0 hJ.2.2
    · rw [oa_n (show ¬ ml v = 4 by rw [e]; exact c4) bg, lc_eq]
      have h6 : ¬ xA u 1 = 6 := fun z => c4 (hG z)
      rw [if_neg h6]
      have hs := RI_m (S_lat h (by omega) md8_2 bz0) (show n + 1 ≤ n + 2 by omega)
      by_cases q : xa u = 0
      · rw [if_pos q]
        have g0 : xg u = 0 := by
          by_cases z : xg u = 0
          · exact z
          · exact absurd (hJ.1 z) (fun w => w.elim (fun w => w q) c4)
        have e2 := g_self (pX0_change u 0 2 0)
        rw [ch_xg, g0] at e2
        rw [e2]; exact hs
      · rw [if_neg q]; exact hs
theorem bt1 (v : MS) : pX1_button v 1 = pX1_navButton v := by unfold pX1_button; rw [if_neg (by decide), if_pos rfl]
theorem bt2 (v : MS) : pX1_button v 2 = pX1_approachButton v := by unfold pX1_button; rw [if_neg (by decide), if_neg (by decide), if_pos rfl]
theorem B1 {n : Nat} {u : XS} {v : MS} (h : RI n u v) (hn : n ≤ 2800000) (hJ : JJ u) (hG : G64 u) : RI (n + 2) (pX0_obeyNav u) (pX1_button v 1) ∧ JJ (pX0_obeyNav u) := by
  rw [bt1]
  unfold pX0_obeyNav pX1_navButton
  rw [tn0]
  have e := h.1.1
  by_cases c4 : xA u 0 = 4
  · rw [if_pos c4, if_neg (show ¬ ml v = 3 by rw [e, c4]; decide), if_pos (show ml v = 4 by rw [e]; exact c4)]
    exact ⟨RI_m h (by omega), hJ⟩
  · rw [if_neg c4]
    by_cases c3 : xA u 0 = 3
    · rw [if_pos c3, if_pos (show ml v = 3 by rw [e]; exact c3)]
      exact ⟨RI_m (S_lat h (by omega) md8_1 bz0) (by omega), JJ_lat hJ c4 (by decide) 0⟩
    · rw [if_neg c3, if_neg (show ¬ ml v = 3 by rw [e]; exact c3), if_neg (show ¬ ml v = 4 by rw [e]; exact c4)]
      by_cases q : xn u = 0
      · rw [if_pos q, if_neg (fun z => (am_1 h.1).mp z q)]
        refine ⟨RI_m (S_nav1 h) (by omega), ?_⟩
        unfold JJ
        rw [xg_xg_, xa_xg_, xa_xa_, xA_xg_, xA_xa_, xA_xn_]
        exact ⟨fun z => absurd rfl z, fun z => absurd z c4, fun _ => rfl⟩
      · rw [if_neg q, if_pos ((am_1 h.1).mpr q)]
        refine ⟨RI_m (S_nav0 h (hJ.2.2 q)) (by omega), ?_⟩
        unfold JJ
        rw [xg_xn_, xa_xn_, xA_xn_, xn_xn_]
        exact ⟨hJ.1, fun z => absurd z c4, fun z => absurd rfl z⟩
theorem B2 {n : Nat} {u : XS} {v : MS} (h : RI n u v) (hn : n ≤ 2800000) (hJ : JJ u) (hG : G64 u) : RI (n + 2) (pX0_obeyApproach u) (pX1_button v 2) ∧ JJ (pX0_obeyApproach u) := by
  rw [bt2]
  unfold pX0_obeyApproach pX1_approachButton
  rw [tn0]
  have e := h.1.1
  by_cases c4 : xA u 0 = 4
  · have e4 : ml v = 4 := by rw [e]; exact c4
    rw [if_pos c4, if_pos e4, oa_y e4, mg2]
    refine ⟨?_, JJ_lv hJ (by decide) 0⟩
    rw [lc_eq, if_pos (hJ.2.1 c4).2]
    exact S_gl (S_w h hn md8_1 bz0) bz0
  · rw [if_neg c4, if_neg (show ¬ ml v = 4 by rw [e]; exact c4)]
    by_cases q : xa u = 0
    · rw [if_pos q, if_neg (fun z => (am_2 h.1 hJ.2.2).mp z q)]
      refine ⟨RI_m (S_app1 h) (by omega), ?_⟩
      unfold JJ
      rw [xg_xn_, xg_xg_, xa_xn_, xa_xg_, xa_xa_, xA_xn_, xA_xg_, xA_xa_, xn_xn_]
      exact ⟨fun _ => Or.inl (by decide), fun z => absurd z c4, fun z => absurd rfl z⟩
    · have hnn : xn u = 0 := by
        by_cases z : xn u = 0
        · exact z
        · exact absurd (hJ.2.2 z) q
      rw [if_neg q, if_pos ((am_2 h.1 hJ.2.2).mpr q)]
      refine ⟨RI_m (S_app0 h hnn) (by omega), ?_⟩
      exact JJ_dis (by rw [xn_xg_, xn_xa_]; exact hnn) (by rw [xa_xg_, xa_xa_]) (by rw [xg_xg_])
theorem bt3 (v : MS) : pX1_button v 3 = if mv v = 6 then v else (if mv v = 2 then pX1_verticalTo v 1 0 else pX1_verticalTo v 2 0) := by
  unfold pX1_button
  rw [if_neg (by decide), if_neg (by decide), if_neg (by decide), if_neg (by decide), show (3 : Int32) - 1 = 2 by decide]
theorem bt4 (v : MS) : pX1_button v 4 = if mv v = 6 then v else (if mv v = 3 then pX1_verticalTo v 1 0 else pX1_verticalTo v 3 0) := by
  unfold pX1_button
  rw [if_neg (by decide), if_neg (by decide), if_neg (by decide), if_neg (by decide), show (4 : Int32) - 1 = 3 by decide]
theorem bt5 (v : MS) : pX1_button v 5 = if mv v = 6 then v else (if mv v = 4 then pX1_verticalTo v 1 0 else pX1_verticalTo v 4 0) := by
  unfold pX1_button
  rw [if_neg (by decide), if_neg (by decide), if_neg (by decide), if_neg (by decide), show (5 : Int32) - 1 = 4 by decide]
theorem bt7 (v : MS) : pX1_button v 7 = if ml v = 5 then (if mv (pX1_lateralTo v 1 0) = 7 then pX1_verticalTo (pX1_lateralTo v 1 0) 1 0 else pX1_verticalTo (pX1_lateralTo v 1 0) (mv (pX1_lateralTo v 1 0)) 0) else (if mv (pX1_lateralTo v (ml v) 0) = 7 then pX1_verticalTo (pX1_lateralTo v (ml v) 0) 1 0 else pX1_verticalTo (pX1_lateralTo v (ml v) 0) (mv (pX1_lateralTo v (ml v) 0)) 0) := by
  unfold pX1_button
  rw [if_neg (by decide), if_neg (by decide), if_neg (by decide), if_pos (by decide), if_neg (by decide), if_pos rfl]
theorem bt8 (v : MS) : pX1_button v 8 = if pX1_isBad v (1 - mr v) = 0 then (if ml (mr_ v (1 - mr v)) ≤ 0 then mr_ v (1 - mr v) else pX1_base (mr_ v (1 - mr v)) 0) else v := by
  unfold pX1_button
  rw [if_neg (by decide), if_neg (by decide), if_neg (by decide), if_pos (by decide), if_neg (by decide), if_neg (by decide), if_pos rfl]
theorem bt9 (v : MS) : pX1_button v 9 = if ml v = 0 then (if mb v = 0 then pX1_base v 0 else if md v = 0 then pX1_base v 0 else v) else (if me v = 0 then pX1_goOff v 0 else v) := by
  unfold pX1_button
  rw [if_neg (by decide), if_neg (by decide), if_neg (by decide), if_pos (by decide), if_neg (by decide), if_neg (by decide), if_neg (by decide)]
theorem B3 {n : Nat} {u : XS} {v : MS} (h : RI n u v) (hn : n ≤ 2800000) (hJ : JJ u) (hG : G64 u) : RI (n + 2) (pX0_obeyVertical u 2) (pX1_button v 3) ∧ JJ (pX0_obeyVertical u 2) := by
  rw [bt3]
  unfold pX0_obeyVertical
  rw [tn1]
  have e := h.1.2.1
  by_cases c6 : xA u 1 = 6
  · rw [if_pos c6, if_pos (show mv v = 6 by rw [e]; exact c6)]
    exact ⟨RI_m h (by omega), hJ⟩
  · rw [if_neg c6, if_neg (show ¬ mv v = 6 by rw [e]; exact c6)]
    by_cases c : xA u 1 = 2
    · rw [if_pos c, if_pos (show mv v = 2 by rw [e]; exact c)]
      exact ⟨RI_m (S_ver h (by omega) md8_1 bz0) (by omega), JJ_ver hJ 1 0⟩
    · rw [if_neg c, if_neg (show ¬ mv v = 2 by rw [e]; exact c)]
      exact ⟨RI_m (S_ver h (by omega) md8_2 bz0) (by omega), JJ_ver hJ 2 0⟩
theorem B4 {n : Nat} {u : XS} {v : MS} (h : RI n u v) (hn : n ≤ 2800000) (hJ : JJ u) (hG : G64 u) : RI (n + 2) (pX0_obeyVertical u 3) (pX1_button v 4) ∧ JJ (pX0_obeyVertical u 3) := by
  rw [bt4]
  unfold pX0_obeyVertical
  rw [tn1]
  have e := h.1.2.1
  by_cases c6 : xA u 1 = 6
  · rw [if_pos c6, if_pos (show mv v = 6 by rw [e]; exact c6)]
    exact ⟨RI_m h (by omega), hJ⟩
  · rw [if_neg c6, if_neg (show ¬ mv v = 6 by rw [e]; exact c6)]
    by_cases c : xA u 1 = 3
    · rw [if_pos c, if_pos (show mv v = 3 by rw [e]; exact c)]
      exact ⟨RI_m (S_ver h (by omega) md8_1 bz0) (by omega), JJ_ver hJ 1 0⟩
    · rw [if_neg c, if_neg (show ¬ mv v = 3 by rw [e]; exact c)]
      exact ⟨RI_m (S_ver h (by omega) md8_3 bz0) (by omega), JJ_ver hJ 3 0⟩
theorem B5 {n : Nat} {u : XS} {v : MS} (h : RI n u v) (hn : n ≤ 2800000) (hJ : JJ u) (hG : G64 u) : RI (n + 2) (pX0_obeyVertical u 4) (pX1_button v 5) ∧ JJ (pX0_obeyVertical u 4) := by
  rw [bt5]
  unfold pX0_obeyVertical
  rw [tn1]
  have e := h.1.2.1
  by_cases c6 : xA u 1 = 6
  · rw [if_pos c6, if_pos (show mv v = 6 by rw [e]; exact c6)]
    exact ⟨RI_m h (by omega), hJ⟩
  · rw [if_neg c6, if_neg (show ¬ mv v = 6 by rw [e]; exact c6)]
    by_cases c : xA u 1 = 4
    · rw [if_pos c, if_pos (show mv v = 4 by rw [e]; exact c)]
      exact ⟨RI_m (S_ver h (by omega) md8_1 bz0) (by omega), JJ_ver hJ 1 0⟩
    · rw [if_neg c, if_neg (show ¬ mv v = 4 by rw [e]; exact c)]
      exact ⟨RI_m (S_ver h (by omega) md8_4 bz0) (by omega), JJ_ver hJ 4 0⟩
theorem ar_eq (v : MS) : pX1_button v 6 = me_ (mw_ (pX1_noneArmed (pX1_verticalTo (pX1_lateralTo v 5 0) 7 0)) (wN v)) 0 := by
  have key : ∀ w : Int32, pX1_verticalTo (pX1_lateralTo (me_ (mw_ (pX1_noneArmed v) w) 0) 5 0) 7 0 = me_ (mw_ (pX1_noneArmed (pX1_verticalTo (pX1_lateralTo v 5 0) 7 0)) w) 0 := fun w => by rw [ltc_me, ltc_mw, ltc_no, vtc_me, vtc_mw, vtc_no]
  unfold pX1_button wN
  rw [if_neg (by decide), if_neg (by decide), if_neg (by decide), if_pos (by decide), if_pos rfl, no_mw, no_me]
  by_cases h1 : mw v = 0
  · rw [if_pos h1, if_pos h1]
    by_cases h2 : me v = 0
    · rw [if_pos h2, if_pos h2, key]
    · rw [if_neg h2, if_neg h2, key]
  · rw [if_neg h1, if_neg h1, key]
theorem B6 {n : Nat} {u : XS} {v : MS} (h : RI n u v) (hn : n ≤ 2800000) (hJ : JJ u) (hG : G64 u) : RI (n + 2) (pX0_obeyAround u) (pX1_button v 6) ∧ JJ (pX0_obeyAround u) := by
  rw [ar_eq]
  unfold pX0_obeyAround
  have h2 := S_eng (S_dis (S_ver (S_lat h (by omega) md8_5 bz0) (by omega) md8_7 bz0))
  rw [wN_no, wN_vt, wN_lt] at h2
  exact ⟨h2, JJ_dis (by rw [dg_xn, da_xn]) (by rw [dg_xa, da_xa]) (by rw [dg_xg, da_xg])⟩
theorem B7 {n : Nat} {u : XS} {v : MS} (h : RI n u v) (hn : n ≤ 2800000) (hJ : JJ u) (hG : G64 u) : RI (n + 2) (pX0_obeySync u) (pX1_button v 7) ∧ JJ (pX0_obeySync u) := by
  rw [bt7]
  unfold pX0_obeySync
  rw [tn0, tn1, lt_same (v := v) (m := ml v) 0 rfl, lt_mv, c0_A1]
  have e := h.1.1
  have e1 := h.1.2.1
  by_cases c5 : xA u 0 = 5
  · rw [if_pos c5, if_pos (show ml v = 5 by rw [e]; exact c5)]
    have hl := S_lat h (by omega) md8_1 bz0
    have jl := JJ_lat hJ (show ¬ xA u 0 = 4 by rw [c5]; decide) (show ¬ (1 : Int32) = 4 by decide) 0
    by_cases c7 : xA u 1 = 7
    · rw [if_pos c7, if_pos (show mv v = 7 by rw [e1]; exact c7)]
      exact ⟨S_ver hl (by omega) md8_1 bz0, JJ_ver jl 1 0⟩
    · rw [if_neg c7, if_neg (show ¬ mv v = 7 by rw [e1]; exact c7), vt_same (v := pX1_lateralTo v 1 0) (m := mv v) 0 (lt_mv v 1 0)]
      exact ⟨RI_m hl (by omega), jl⟩
  · rw [if_neg c5, if_neg (show ¬ ml v = 5 by rw [e]; exact c5)]
    by_cases c7 : xA u 1 = 7
    · rw [if_pos c7, if_pos (show mv v = 7 by rw [e1]; exact c7)]
      exact ⟨RI_m (S_ver h (by omega) md8_1 bz0) (by omega), JJ_ver hJ 1 0⟩
    · rw [if_neg c7, if_neg (show ¬ mv v = 7 by rw [e1]; exact c7), vt_same (v := v) (m := mv v) 0 rfl]
      exact ⟨RI_m h (by omega), hJ⟩
theorem B8 {n : Nat} {u : XS} {v : MS} (h : RI n u v) (hn : n ≤ 2800000) (hJ : JJ u) (hG : G64 u) : RI (n + 2) (pX0_obeyTransfer u) (pX1_button v 8) ∧ JJ (pX0_obeyTransfer u) := by
  have er := h.1.2.2.2.2.2.2.2.1
  rw [bt8, er]
  unfold pX0_obeyTransfer
  have hi := bad_iff h.1 (bz_s h.2.1.1)
  by_cases q : xS u (Int32.toNatClampNeg (1 - xl u)) = 0
  · rw [if_pos q, if_neg (fun z => (hi.mp z) q)]
    exact ⟨RI_m h (by omega), hJ⟩
  · rw [if_neg q, if_pos (hi.mpr q)]
    have hr := S_ld h (bz_s h.2.1.1)
    have hj : JJ (xl_ u (1 - xl u)) := JJ_same hJ (by rw [xA_xl_]) (by rw [xn_xl_]) (by rw [xa_xl_]) (by rw [xg_xl_])
    have hl : ml (mr_ v (1 - xl u)) ≤ 0 ↔ xA (xl_ u (1 - xl u)) 0 = 0 := by rw [hr.1.1]; exact le0 hr.1.2.2.2.2.2.2.2.2.2.2.2.2.1
    by_cases c : xA (xl_ u (1 - xl u)) 0 = 0
    · rw [if_pos ((on_0 _).mpr c), if_pos (hl.mpr c)]
      exact ⟨RI_m hr (by omega), hj⟩
    · rw [if_neg (fun z => c ((on_0 _).mp z)), if_neg (fun z => c (hl.mp z))]
      exact ⟨S_base hr hn, JJ_base _⟩
theorem B9 {n : Nat} {u : XS} {v : MS} (h : RI n u v) (hn : n ≤ 2800000) (hJ : JJ u) (hG : G64 u) : RI (n + 2) (pX0_obeyDirector u) (pX1_button v 9) ∧ JJ (pX0_obeyDirector u) := by
  rw [bt9]
  unfold pX0_obeyDirector
  have e := h.1.1
  have ee : me v = xe u := h.1.2.2.2.2.2.2.2.2.1
  by_cases c : xA u 0 = 0
  · rw [if_pos ((on_0 u).mpr c), if_pos (show ml v = 0 by rw [e]; exact c)]
    by_cases q : pX0_isAnyChannelSound u = 0
    · have z := (any_iff h.1).mp q
      rw [if_pos q, if_neg z.1, if_neg z.2]
      exact ⟨RI_m h (by omega), hJ⟩
    · have z : ¬ (¬ mb v = 0 ∧ ¬ md v = 0) := fun z => q ((any_iff h.1).mpr z)
      rw [if_neg q]
      by_cases b : mb v = 0
      · rw [if_pos b]; exact ⟨S_base h hn, JJ_base u⟩
      · by_cases d : md v = 0
        · rw [if_neg b, if_pos d]; exact ⟨S_base h hn, JJ_base u⟩
        · exact absurd ⟨b, d⟩ z
  · rw [if_neg (fun z => c ((on_0 u).mp z)), if_neg (show ¬ ml v = 0 by rw [e]; exact c)]
    by_cases q : xe u = 0
    · rw [if_pos q, if_pos (show me v = 0 by rw [ee]; exact q)]
      exact ⟨S_off h hn bz0, JJ_off u 0⟩
    · rw [if_neg q, if_neg (show ¬ me v = 0 by rw [ee]; exact q)]
      exact ⟨RI_m h (by omega), hJ⟩
theorem oa_mt (v : MS) (a : Int32) : mt (pX1_outOfApproach v a) = mt v := by
  unfold pX1_outOfApproach
  (repeat' split) <;> simp only [mt_mg_, vt_mt, lt_mt]
theorem btn_mt (v : MS) (a : Int32) : mt (pX1_button v a) = mt v := by
  unfold pX1_button pX1_navButton pX1_approachButton
  (repeat' split) <;> simp only [oa_mt, no_mt, base_mt, off_mt, mt_mr_, mt_me_, mt_mw_, mt_ma_, mt_mg_, vt_mt, lt_mt]
theorem ob_0 (u : XS) : pX0_obey u 0 = if pX0_isAnyChannelSound u = 0 then u else pX0_obeyHeading (pX0_turnOnIfOff u) := by
  unfold pX0_obey
  rw [if_neg (show ¬ (7 : Int32) < 0 by decide)]
  by_cases q : pX0_isAnyChannelSound u = 0
  · rw [if_pos q, if_pos q]
  · rw [if_neg q, if_neg q, if_pos rfl]
theorem pm_0 (w : MS) (S : Int32) : pX1_press_64 w 0 1 S = pX1_press_96 (pX1_button (onM w) 0) 0 S 1 := by
  unfold pX1_press_64 pX1_press_87 onM
  rw [if_neg (show ¬ (1 : Int32) = 0 by decide), if_neg (show ¬ (8 : Int32) ≤ 0 by decide)]
  by_cases q : ml w = 0
  · rw [if_pos q, if_pos q, if_neg (show ¬ (1 : Int32) = 0 by decide)]
  · rw [if_neg q, if_neg q, if_neg (show ¬ (1 : Int32) = 0 by decide)]
theorem ob_1 (u : XS) : pX0_obey u 1 = if pX0_isAnyChannelSound u = 0 then u else pX0_obeyNav (pX0_turnOnIfOff u) := by
  unfold pX0_obey
  rw [if_neg (show ¬ (7 : Int32) < 1 by decide)]
  by_cases q : pX0_isAnyChannelSound u = 0
  · rw [if_pos q, if_pos q]
  · rw [if_neg q, if_neg q, if_neg (by decide), if_pos rfl]
theorem pm_1 (w : MS) (S : Int32) : pX1_press_64 w 1 1 S = pX1_press_96 (pX1_button (onM w) 1) 1 S 1 := by
  unfold pX1_press_64 pX1_press_87 onM
  rw [if_neg (show ¬ (1 : Int32) = 0 by decide), if_neg (show ¬ (8 : Int32) ≤ 1 by decide)]
  by_cases q : ml w = 0
  · rw [if_pos q, if_pos q, if_neg (show ¬ (1 : Int32) = 0 by decide)]
  · rw [if_neg q, if_neg q, if_neg (show ¬ (1 : Int32) = 0 by decide)]
theorem ob_2 (u : XS) : pX0_obey u 2 = if pX0_isAnyChannelSound u = 0 then u else pX0_obeyApproach (pX0_turnOnIfOff u) := by
  unfold pX0_obey
  rw [if_neg (show ¬ (7 : Int32) < 2 by decide)]
  by_cases q : pX0_isAnyChannelSound u = 0
  · rw [if_pos q, if_pos q]
  · rw [if_neg q, if_neg q, if_neg (by decide), if_neg (by decide), if_pos rfl]
theorem pm_2 (w : MS) (S : Int32) : pX1_press_64 w 2 1 S = pX1_press_96 (pX1_button (onM w) 2) 2 S 1 := by
  unfold pX1_press_64 pX1_press_87 onM
  rw [if_neg (show ¬ (1 : Int32) = 0 by decide), if_neg (show ¬ (8 : Int32) ≤ 2 by decide)]
  by_cases q : ml w = 0
  · rw [if_pos q, if_pos q, if_neg (show ¬ (1 : Int32) = 0 by decide)]
  · rw [if_neg q, if_neg q, if_neg (show ¬ (1 : Int32) = 0 by decide)]
theorem ob_3 (u : XS) : pX0_obey u 3 = if pX0_isAnyChannelSound u = 0 then u else pX0_obeyVertical (pX0_turnOnIfOff u) 2 := by
  unfold pX0_obey
  rw [if_neg (show ¬ (7 : Int32) < 3 by decide)]
  by_cases q : pX0_isAnyChannelSound u = 0
  · rw [if_pos q, if_pos q]
  · rw [if_neg q, if_neg q, if_neg (by decide), if_neg (by decide), if_neg (by decide), if_pos rfl]
theorem pm_3 (w : MS) (S : Int32) : pX1_press_64 w 3 1 S = pX1_press_96 (pX1_button (onM w) 3) 3 S 1 := by
  unfold pX1_press_64 pX1_press_87 onM
  rw [if_neg (show ¬ (1 : Int32) = 0 by decide), if_neg (show ¬ (8 : Int32) ≤ 3 by decide)]
  by_cases q : ml w = 0
  · rw [if_pos q, if_pos q, if_neg (show ¬ (1 : Int32) = 0 by decide)]
  · rw [if_neg q, if_neg q, if_neg (show ¬ (1 : Int32) = 0 by decide)]
theorem ob_4 (u : XS) : pX0_obey u 4 = if pX0_isAnyChannelSound u = 0 then u else pX0_obeyVertical (pX0_turnOnIfOff u) 3 := by
  unfold pX0_obey
  rw [if_neg (show ¬ (7 : Int32) < 4 by decide)]
  by_cases q : pX0_isAnyChannelSound u = 0
  · rw [if_pos q, if_pos q]
  · rw [if_neg q, if_neg q, if_neg (by decide), if_neg (by decide), if_neg (by decide), if_neg (by decide), if_pos rfl]
theorem pm_4 (w : MS) (S : Int32) : pX1_press_64 w 4 1 S = pX1_press_96 (pX1_button (onM w) 4) 4 S 1 := by
  unfold pX1_press_64 pX1_press_87 onM
  rw [if_neg (show ¬ (1 : Int32) = 0 by decide), if_neg (show ¬ (8 : Int32) ≤ 4 by decide)]
  by_cases q : ml w = 0
  · rw [if_pos q, if_pos q, if_neg (show ¬ (1 : Int32) = 0 by decide)]
  · rw [if_neg q, if_neg q, if_neg (show ¬ (1 : Int32) = 0 by decide)]
theorem ob_5 (u : XS) : pX0_obey u 5 = if pX0_isAnyChannelSound u = 0 then u else pX0_obeyVertical (pX0_turnOnIfOff u) 4 := by
  unfold pX0_obey
  rw [if_neg (show ¬ (7 : Int32) < 5 by decide)]
  by_cases q : pX0_isAnyChannelSound u = 0
  · rw [if_pos q, if_pos q]
  · rw [if_neg q, if_neg q, if_neg (by decide), if_neg (by decide), if_neg (by decide), if_neg (by decide), if_neg (by decide), if_pos rfl]
theorem pm_5 (w : MS) (S : Int32) : pX1_press_64 w 5 1 S = pX1_press_96 (pX1_button (onM w) 5) 5 S 1 := by
  unfold pX1_press_64 pX1_press_87 onM
  rw [if_neg (show ¬ (1 : Int32) = 0 by decide), if_neg (show ¬ (8 : Int32) ≤ 5 by decide)]
  by_cases q : ml w = 0
  · rw [if_pos q, if_pos q, if_neg (show ¬ (1 : Int32) = 0 by decide)]
  · rw [if_neg q, if_neg q, if_neg (show ¬ (1 : Int32) = 0 by decide)]
theorem ob_6 (u : XS) : pX0_obey u 6 = if pX0_isAnyChannelSound u = 0 then u else pX0_obeyAround (pX0_turnOnIfOff u) := by
  unfold pX0_obey
  rw [if_neg (show ¬ (7 : Int32) < 6 by decide)]
  by_cases q : pX0_isAnyChannelSound u = 0
  · rw [if_pos q, if_pos q]
  · rw [if_neg q, if_neg q, if_neg (by decide), if_neg (by decide), if_neg (by decide), if_neg (by decide), if_neg (by decide), if_neg (by decide), if_pos rfl]
theorem pm_6 (w : MS) (S : Int32) : pX1_press_64 w 6 1 S = pX1_press_96 (pX1_button (onM w) 6) 6 S 1 := by
  unfold pX1_press_64 pX1_press_87 onM
  rw [if_neg (show ¬ (1 : Int32) = 0 by decide), if_neg (show ¬ (8 : Int32) ≤ 6 by decide)]
  by_cases q : ml w = 0
  · rw [if_pos q, if_pos q, if_neg (show ¬ (1 : Int32) = 0 by decide)]
  · rw [if_neg q, if_neg q, if_neg (show ¬ (1 : Int32) = 0 by decide)]
theorem ob_7 (u : XS) : pX0_obey u 7 = if pX0_isAnyChannelSound u = 0 then u else pX0_obeySync (pX0_turnOnIfOff u) := by
  unfold pX0_obey
  rw [if_neg (show ¬ (7 : Int32) < 7 by decide)]
  by_cases q : pX0_isAnyChannelSound u = 0
  · rw [if_pos q, if_pos q]
  · rw [if_neg q, if_neg q, if_neg (by decide), if_neg (by decide), if_neg (by decide), if_neg (by decide), if_neg (by decide), if_neg (by decide), if_neg (by decide), if_pos rfl]
theorem pm_7 (w : MS) (S : Int32) : pX1_press_64 w 7 1 S = pX1_press_96 (pX1_button (onM w) 7) 7 S 1 := by
  unfold pX1_press_64 pX1_press_87 onM
  rw [if_neg (show ¬ (1 : Int32) = 0 by decide), if_neg (show ¬ (8 : Int32) ≤ 7 by decide)]
  by_cases q : ml w = 0
  · rw [if_pos q, if_pos q, if_neg (show ¬ (1 : Int32) = 0 by decide)]
  · rw [if_neg q, if_neg q, if_neg (show ¬ (1 : Int32) = 0 by decide)]
theorem ob_8 (u : XS) : pX0_obey u 8 = pX0_obeyTransfer u := by
  unfold pX0_obey
  rw [if_pos (show (7 : Int32) < 8 by decide), if_neg (by decide), if_neg (by decide), if_neg (by decide), if_neg (by decide), if_neg (by decide), if_neg (by decide), if_neg (by decide), if_neg (by decide), if_pos rfl]
theorem pm_8 (w : MS) (S : Int32) : pX1_press_64 w 8 1 S = pX1_press_96 (pX1_button w 8) 8 S 1 := by
  unfold pX1_press_64 pX1_press_87
  rw [if_neg (show ¬ (1 : Int32) = 0 by decide), if_pos (show (8 : Int32) ≤ 8 by decide), if_neg (show ¬ (1 : Int32) = 0 by decide)]
theorem ob_9 (u : XS) : pX0_obey u 9 = pX0_obeyDirector u := by
  unfold pX0_obey
  rw [if_pos (show (7 : Int32) < 9 by decide), if_neg (by decide), if_neg (by decide), if_neg (by decide), if_neg (by decide), if_neg (by decide), if_neg (by decide), if_neg (by decide), if_neg (by decide), if_neg (by decide)]
theorem pm_9 (w : MS) (S : Int32) : pX1_press_64 w 9 1 S = pX1_press_96 (pX1_button w 9) 9 S 1 := by
  unfold pX1_press_64 pX1_press_87
  rw [if_neg (show ¬ (1 : Int32) = 0 by decide), if_pos (show (8 : Int32) ≤ 9 by decide), if_neg (show ¬ (1 : Int32) = 0 by decide)]
theorem pm_no (w : MS) (a S : Int32) : pX1_press_64 w a 0 S = pX1_press_96 w a S 0 := by
  unfold pX1_press_64 pX1_press_87
  rw [if_pos rfl, if_pos rfl]
/-- the end of a press: settle, compare -/
theorem FIN {m : Nat} {u u2 : XS} {v2 : MS} (h : RI m u2 v2) (hm : m ≤ 2600000) (hJ : JJ u2) (ht : mt v2 = 0) (a S j : Int32) (o : Option (Int32 × XS)) (q : Int32 × MS) (ho : (if pX0_stateAsNumber (pX0_settle u2).2 = S then some ((0 : Int32), (pX0_settle u2).2) else some (1, (pX0_settle u2).2)) = o) (hq : pX1_press_96 v2 a S j = q) : SimT o u q := by
  have hs := settle_sim h hm hJ
  have hm2 := settle_mt v2
  unfold pX1_press_96 at hq
  rw [num_eq hs.2.1 hs.2.2.1.2.2] at ho
  have hR := RRi hs.2.1 hs.2.2.1 hs.2.2.2
  generalize (pX0_settle u2).2 = X at hR ho
  generalize (pX1_settle v2).2 = Y at hR hm2 ho hq
  have hm3 : mt Y = 0 := hm2.trans ht
  by_cases z : pX1_sum Y = S
  · rw [if_pos z] at ho hq
    subst ho hq
    exact ⟨hm3, rfl, hR⟩
  · rw [if_neg z] at ho hq
    subst ho hq
    exact ⟨hm3, rfl, hR⟩
/-- what both sides do before they settle -/
theorem OBY {n : Nat} {u : XS} {w : MS} (h : RI n u w) (hn : n ≤ 2000000) (hJ : JJ u) (hG : G64 u) (S a : Int32) (c0 : ¬ a < 0) (c9 : ¬ 9 < a) : ∃ (w2 : MS) (j : Int32), (if 7 < a then pX1_press_64 w a 1 S else if mb w = 0 then pX1_press_64 w a 1 S else if md w = 0 then pX1_press_64 w a 1 S else pX1_press_64 w a 0 S) = pX1_press_96 w2 a S j ∧ RI (n + 4) (pX0_obey u a) w2 ∧ JJ (pX0_obey u a) ∧ mt w2 = mt w := by
  have ho := S_on h (by omega) hJ hG
  have ai := any_iff h.1
  have yes : ∀ X : Int32 × MS, ¬ pX0_isAnyChannelSound u = 0 → (if mb w = 0 then X else if md w = 0 then X else pX1_press_64 w a 0 S) = X := by
    intro X q
    by_cases b : mb w = 0
    · rw [if_pos b]
    · rw [if_neg b]
      by_cases d : md w = 0
      · rw [if_pos d]
      · exact absurd (ai.mpr ⟨b, d⟩) q
  obtain ⟨k, hk, e⟩ := nI_of c0
  have h10 : k < 10 := by
    rcases Nat.lt_or_ge k 10 with q | q
    · exact q
    · exact absurd (by rw [e]; exact nI_lt (a := 9) (b := k) q hk) c9
  rcases (show k = 0 ∨ k = 1 ∨ k = 2 ∨ k = 3 ∨ k = 4 ∨ k = 5 ∨ k = 6 ∨ k = 7 ∨ k = 8 ∨ k = 9 by omega) with rfl | rfl | rfl | rfl | rfl | rfl | rfl | rfl | rfl | rfl
  · have e : a = 0 := e
    subst e
    rw [if_neg (show ¬ (7 : Int32) < 0 by decide), ob_0]
    by_cases q : pX0_isAnyChannelSound u = 0
    · rw [if_pos q, if_neg (ai.mp q).1, if_neg (ai.mp q).2, pm_no]
      exact ⟨w, 0, rfl, RI_m h (by omega), hJ, rfl⟩
    · rw [if_neg q, yes _ q, pm_0]
      have hb := B0 ho.1 (by omega) ho.2.1 ho.2.2
      exact ⟨_, 1, rfl, hb.1, hb.2, by rw [btn_mt, onM_mt]⟩
  · have e : a = 1 := e
    subst e
    rw [if_neg (show ¬ (7 : Int32) < 1 by decide), ob_1]
    by_cases q : pX0_isAnyChannelSound u = 0
    · rw [if_pos q, if_neg (ai.mp q).1, if_neg (ai.mp q).2, pm_no]
      exact ⟨w, 0, rfl, RI_m h (by omega), hJ, rfl⟩
    · rw [if_neg q, yes _ q, pm_1]
      have hb := B1 ho.1 (by omega) ho.2.1 ho.2.2
      exact ⟨_, 1, rfl, hb.1, hb.2, by rw [btn_mt, onM_mt]⟩
  · have e : a = 2 := e
    subst e
    rw [if_neg (show ¬ (7 : Int32) < 2 by decide), ob_2]
    by_cases q : pX0_isAnyChannelSound u = 0
    · rw [if_pos q, if_neg (ai.mp q).1, if_neg (ai.mp q).2, pm_no]
      exact ⟨w, 0, rfl, RI_m h (by omega), hJ, rfl⟩
    · rw [if_neg q, yes _ q, pm_2]
      have hb := B2 ho.1 (by omega) ho.2.1 ho.2.2
      exact ⟨_, 1, rfl, hb.1, hb.2, by rw [btn_mt, onM_mt]⟩
  · have e : a = 3 := e
    subst e
    rw [if_neg (show ¬ (7 : Int32) < 3 by decide), ob_3]
    by_cases q : pX0_isAnyChannelSound u = 0
    · rw [if_pos q, if_neg (ai.mp q).1, if_neg (ai.mp q).2, pm_no]
      exact ⟨w, 0, rfl, RI_m h (by omega), hJ, rfl⟩
    · rw [if_neg q, yes _ q, pm_3]
      have hb := B3 ho.1 (by omega) ho.2.1 ho.2.2
      exact ⟨_, 1, rfl, hb.1, hb.2, by rw [btn_mt, onM_mt]⟩
  · have e : a = 4 := e
    subst e
    rw [if_neg (show ¬ (7 : Int32) < 4 by decide), ob_4]
    by_cases q : pX0_isAnyChannelSound u = 0
    · rw [if_pos q, if_neg (ai.mp q).1, if_neg (ai.mp q).2, pm_no]
      exact ⟨w, 0, rfl, RI_m h (by omega), hJ, rfl⟩
    · rw [if_neg q, yes _ q, pm_4]
      have hb := B4 ho.1 (by omega) ho.2.1 ho.2.2
      exact ⟨_, 1, rfl, hb.1, hb.2, by rw [btn_mt, onM_mt]⟩
  · have e : a = 5 := e
    subst e
    rw [if_neg (show ¬ (7 : Int32) < 5 by decide), ob_5]
    by_cases q : pX0_isAnyChannelSound u = 0
    · rw [if_pos q, if_neg (ai.mp q).1, if_neg (ai.mp q).2, pm_no]
      exact ⟨w, 0, rfl, RI_m h (by omega), hJ, rfl⟩
    · rw [if_neg q, yes _ q, pm_5]
      have hb := B5 ho.1 (by omega) ho.2.1 ho.2.2
      exact ⟨_, 1, rfl, hb.1, hb.2, by rw [btn_mt, onM_mt]⟩
  · have e : a = 6 := e
    subst e
    rw [if_neg (show ¬ (7 : Int32) < 6 by decide), ob_6]
    by_cases q : pX0_isAnyChannelSound u = 0
    · rw [if_pos q, if_neg (ai.mp q).1, if_neg (ai.mp q).2, pm_no]
      exact ⟨w, 0, rfl, RI_m h (by omega), hJ, rfl⟩
    · rw [if_neg q, yes _ q, pm_6]
      have hb := B6 ho.1 (by omega) ho.2.1 ho.2.2
      exact ⟨_, 1, rfl, hb.1, hb.2, by rw [btn_mt, onM_mt]⟩
  · have e : a = 7 := e
    subst e
    rw [if_neg (show ¬ (7 : Int32) < 7 by decide), ob_7]
    by_cases q : pX0_isAnyChannelSound u = 0
    · rw [if_pos q, if_neg (ai.mp q).1, if_neg (ai.mp q).2, pm_no]
      exact ⟨w, 0, rfl, RI_m h (by omega), hJ, rfl⟩
    · rw [if_neg q, yes _ q, pm_7]
      have hb := B7 ho.1 (by omega) ho.2.1 ho.2.2
      exact ⟨_, 1, rfl, hb.1, hb.2, by rw [btn_mt, onM_mt]⟩
  · have e : a = 8 := e
    subst e
    rw [if_pos (show (7 : Int32) < 8 by decide), ob_8, pm_8]
    have hb := B8 h (by omega) hJ hG
    exact ⟨_, 1, rfl, RI_m hb.1 (by omega), hb.2, by rw [btn_mt]⟩
  · have e : a = 9 := e
    subst e
    rw [if_pos (show (7 : Int32) < 9 by decide), ob_9, pm_9]
    have hb := B9 h (by omega) hJ hG
    exact ⟨_, 1, rfl, RI_m hb.1 (by omega), hb.2, by rw [btn_mt]⟩
theorem lt10 {a : Int32} (c0 : ¬ a < 0) : a < 10 ↔ ¬ 9 < a := by
  obtain ⟨k, hk, rfl⟩ := nI_of c0
  have h1 : nI k < 10 ↔ k < 10 := nI_ltI (a := k) (b := 10) hk (by decide)
  have h2 : 9 < nI k ↔ 9 < k := nI_ltI (a := 9) (b := k) (by decide) hk
  rw [h1, h2]; omega
theorem press_core {n : Nat} {u u1 : XS} {w : MS} (h : RI n u1 w) (hn : n ≤ 2000000) (hJ : JJ u1) (hG : G64 u1) (S a : Int32) (c0 : ¬ a < 0) (c9 : ¬ 9 < a) (ht : mt w = 0) (o : Option (Int32 × XS)) (q : Int32 × MS) (ho : (if pX0_stateAsNumber (pX0_settle (pX0_obey u1 a)).2 = S then some ((0 : Int32), (pX0_settle (pX0_obey u1 a)).2) else some (1, (pX0_settle (pX0_obey u1 a)).2)) = o) (hq : (if 7 < a then pX1_press_64 w a 1 S else if mb w = 0 then pX1_press_64 w a 1 S else if md w = 0 then pX1_press_64 w a 1 S else pX1_press_64 w a 0 S) = q) : SimT o u q := by
  have hO := OBY h hn hJ hG S a c0 c9
  have hm : n + 4 ≤ 2600000 := by omega
  obtain ⟨w2, j, e1, e2, e3, e4⟩ := hO
  rw [e1] at hq
  exact FIN e2 hm e3 (e4.trans ht) a S j o q ho hq
theorem sim_press {u : XS} {v : MS} {n : Nat} (h : RR u v) (hI : InvX u) (hM : InvM n v) (hn : n ≤ 1000000) (a1 : Int32) : SimT (pX0_press u a1) u (pX1_press v a1) := by
  generalize hp : pX0_press u a1 = o
  generalize hq : pX1_press v a1 = q
  unfold pX0_press at hp
  unfold pX1_press at hq
  by_cases c0 : a1 < 0
  · rw [if_pos c0] at hp hq; subst hp hq; exact SimNo h hI hM
  · rw [if_neg c0] at hp hq
    by_cases c9 : 9 < a1
    · rw [if_neg (fun z => (lt10 c0).mp z c9)] at hp; rw [if_pos c9] at hq; subst hp hq; exact SimNo h hI hM
    · rw [if_pos ((lt10 c0).mpr c9)] at hp; rw [if_neg c9, good1] at hq
      dsimp only at hq
      have hr := S_mt (⟨h.1, hI, hM⟩ : RI n u v) 0
      have hst := S_stop hr
      have hJ : JJ (pX0_stopFlashing u) := JJ_same h.2.1 (by rw [sf_xA]) (by rw [sf_xn]) (by rw [sf_xa]) (by rw [sf_xg])
      have hG : G64 (pX0_stopFlashing u) := by unfold G64; rw [sf_xA]; exact h.2.2
      rw [num_eq hr h.2.1.2.2] at hp
      have hm : mt (mh_ (mf_ (mt_ v 0) 0) 0) = 0 := by rw [mt_mh_, mt_mf_, mt_mt_]
      have h2 : n ≤ 2000000 := by omega
      exact press_core hst h2 hJ hG (pX1_sum (mt_ v 0)) a1 c0 c9 hm o q hp hq
