theorem arm_c {u w : XS} (h1 : xn u = xn w) (h2 : xa u = xa w) : arm u = arm w := by unfold arm; rw [h1, h2]
theorem arm_v {u : XS} {a b : Int32} (h1 : xn u = a) (h2 : xa u = b) : arm u = (if a = 0 then (if b = 0 then 0 else 2) else 1) := by unfold arm; rw [h1, h2]
theorem S_dis0 {n : Nat} {u : XS} {v : MS} (h : RI n u v) : RI n (xg_ (xa_ (xn_ u 0) 0) 0) (mg_ (ma_ v 0) 0) := by
  obtain ⟨⟨r1, r2, r3, r4, r5, r6, r7, r8, r9, r10, r11, r12, r13, r14, r15, r16, r17⟩, hX, hM⟩ := h
  refine ⟨⟨?_, ?_, ?_, ?_, ?_, ?_, ?_, ?_, ?_, ?_, ?_, ?_, ?_, ?_, ?_, ?_, ?_⟩, ((hX.sn bz0).sa bz0).sg bz0, (hM.sa 0).sg bz0⟩
  · (try simp only [ml_mt_, ml_ml_, ml_mv_, ml_ma_, ml_mg_, ml_me_, ml_mw_, ml_mb_, ml_md_, ml_mr_, ml_mV_, ml_mf_, ml_mh_, ml_mk_, ml_mR_, xA_xA_, xA_xF_, xA_xM_, xA_xS_, xA_xl_, xA_xn_, xA_xa_, xA_xg_, xA_xe_, xA_xw_, xA_xC_, xA_xc_]); exact r1
  · (try simp only [mv_mt_, mv_ml_, mv_mv_, mv_ma_, mv_mg_, mv_me_, mv_mw_, mv_mb_, mv_md_, mv_mr_, mv_mV_, mv_mf_, mv_mh_, mv_mk_, mv_mR_, xA_xA_, xA_xF_, xA_xM_, xA_xS_, xA_xl_, xA_xn_, xA_xa_, xA_xg_, xA_xe_, xA_xw_, xA_xC_, xA_xc_]); exact r2
  · (try simp only [mf_mt_, mf_ml_, mf_mv_, mf_ma_, mf_mg_, mf_me_, mf_mw_, mf_mb_, mf_md_, mf_mr_, mf_mV_, mf_mf_, mf_mh_, mf_mk_, mf_mR_, xF_xA_, xF_xF_, xF_xM_, xF_xS_, xF_xl_, xF_xn_, xF_xa_, xF_xg_, xF_xe_, xF_xw_, xF_xC_, xF_xc_]); exact r3
  · (try simp only [mh_mt_, mh_ml_, mh_mv_, mh_ma_, mh_mg_, mh_me_, mh_mw_, mh_mb_, mh_md_, mh_mr_, mh_mV_, mh_mf_, mh_mh_, mh_mk_, mh_mR_, xF_xA_, xF_xF_, xF_xM_, xF_xS_, xF_xl_, xF_xn_, xF_xa_, xF_xg_, xF_xe_, xF_xw_, xF_xC_, xF_xc_]); exact r4
  · (try simp only [mV_mt_, mV_ml_, mV_mv_, mV_ma_, mV_mg_, mV_me_, mV_mw_, mV_mb_, mV_md_, mV_mr_, mV_mV_, mV_mf_, mV_mh_, mV_mk_, mV_mR_, xM_xA_, xM_xF_, xM_xM_, xM_xS_, xM_xl_, xM_xn_, xM_xa_, xM_xg_, xM_xe_, xM_xw_, xM_xC_, xM_xc_]); exact r5
  · (try simp only [mb_mt_, mb_ml_, mb_mv_, mb_ma_, mb_mg_, mb_me_, mb_mw_, mb_mb_, mb_md_, mb_mr_, mb_mV_, mb_mf_, mb_mh_, mb_mk_, mb_mR_, xS_xA_, xS_xF_, xS_xM_, xS_xS_, xS_xl_, xS_xn_, xS_xa_, xS_xg_, xS_xe_, xS_xw_, xS_xC_, xS_xc_]); exact r6
  · (try simp only [md_mt_, md_ml_, md_mv_, md_ma_, md_mg_, md_me_, md_mw_, md_mb_, md_md_, md_mr_, md_mV_, md_mf_, md_mh_, md_mk_, md_mR_, xS_xA_, xS_xF_, xS_xM_, xS_xS_, xS_xl_, xS_xn_, xS_xa_, xS_xg_, xS_xe_, xS_xw_, xS_xC_, xS_xc_]); exact r7
  · (try simp only [mr_mt_, mr_ml_, mr_mv_, mr_ma_, mr_mg_, mr_me_, mr_mw_, mr_mb_, mr_md_, mr_mr_, mr_mV_, mr_mf_, mr_mh_, mr_mk_, mr_mR_, xl_xA_, xl_xF_, xl_xM_, xl_xS_, xl_xl_, xl_xn_, xl_xa_, xl_xg_, xl_xe_, xl_xw_, xl_xC_, xl_xc_]); exact r8
  · (try simp only [me_mt_, me_ml_, me_mv_, me_ma_, me_mg_, me_me_, me_mw_, me_mb_, me_md_, me_mr_, me_mV_, me_mf_, me_mh_, me_mk_, me_mR_, xe_xA_, xe_xF_, xe_xM_, xe_xS_, xe_xl_, xe_xn_, xe_xa_, xe_xg_, xe_xe_, xe_xw_, xe_xC_, xe_xc_]); exact r9
  · (try simp only [mw_mt_, mw_ml_, mw_mv_, mw_ma_, mw_mg_, mw_me_, mw_mw_, mw_mb_, mw_md_, mw_mr_, mw_mV_, mw_mf_, mw_mh_, mw_mk_, mw_mR_, xw_xA_, xw_xF_, xw_xM_, xw_xS_, xw_xl_, xw_xn_, xw_xa_, xw_xg_, xw_xe_, xw_xw_, xw_xC_, xw_xc_]); exact r10
  · simp only [mg_mt_, mg_ml_, mg_mv_, mg_ma_, mg_mg_, mg_me_, mg_mw_, mg_mb_, mg_md_, mg_mr_, mg_mV_, mg_mf_, mg_mh_, mg_mk_, mg_mR_, xg_xA_, xg_xF_, xg_xM_, xg_xS_, xg_xl_, xg_xn_, xg_xa_, xg_xg_, xg_xe_, xg_xw_, xg_xC_, xg_xc_]
  · refine Eq.trans (b := 0) (by simp only [ma_mt_, ma_ml_, ma_mv_, ma_ma_, ma_mg_, ma_me_, ma_mw_, ma_mb_, ma_md_, ma_mr_, ma_mV_, ma_mf_, ma_mh_, ma_mk_, ma_mR_]) (Eq.symm ((arm_v (a := 0) (b := 0) (by simp only [xn_xA_, xn_xF_, xn_xM_, xn_xS_, xn_xl_, xn_xn_, xn_xa_, xn_xg_, xn_xe_, xn_xw_, xn_xC_, xn_xc_]) (by simp only [xa_xA_, xa_xF_, xa_xM_, xa_xS_, xa_xl_, xa_xn_, xa_xa_, xa_xg_, xa_xe_, xa_xw_, xa_xC_, xa_xc_])).trans (by decide)))
  · (try simp only [xA_xA_, xA_xF_, xA_xM_, xA_xS_, xA_xl_, xA_xn_, xA_xa_, xA_xg_, xA_xe_, xA_xw_, xA_xC_, xA_xc_]); exact r13
  · (try simp only [xA_xA_, xA_xF_, xA_xM_, xA_xS_, xA_xl_, xA_xn_, xA_xa_, xA_xg_, xA_xe_, xA_xw_, xA_xC_, xA_xc_]); exact r14
  · (try simp only [xF_xA_, xF_xF_, xF_xM_, xF_xS_, xF_xl_, xF_xn_, xF_xa_, xF_xg_, xF_xe_, xF_xw_, xF_xC_, xF_xc_]); exact r15
  · (try simp only [xF_xA_, xF_xF_, xF_xM_, xF_xS_, xF_xl_, xF_xn_, xF_xa_, xF_xg_, xF_xe_, xF_xw_, xF_xC_, xF_xc_]); exact r16
  · unfold LG; simp only [mk_mt_, mk_ml_, mk_mv_, mk_ma_, mk_mg_, mk_me_, mk_mw_, mk_mb_, mk_md_, mk_mr_, mk_mV_, mk_mf_, mk_mh_, mk_mk_, mk_mR_, mR_mt_, mR_ml_, mR_mv_, mR_ma_, mR_mg_, mR_me_, mR_mw_, mR_mb_, mR_md_, mR_mr_, mR_mV_, mR_mf_, mR_mh_, mR_mk_, mR_mR_, xc_xA_, xc_xF_, xc_xM_, xc_xS_, xc_xl_, xc_xn_, xc_xa_, xc_xg_, xc_xe_, xc_xw_, xc_xC_, xc_xc_, xC_xA_, xC_xF_, xC_xM_, xC_xS_, xC_xl_, xC_xn_, xC_xa_, xC_xg_, xC_xe_, xC_xw_, xC_xC_, xC_xc_]; exact r17
theorem S_dis {n : Nat} {u : XS} {v : MS} (h : RI n u v) : RI n (pX0_disarmAll u) (pX1_noneArmed v) := S_dis0 h
theorem S_fl0 {n : Nat} {u : XS} {v : MS} (h : RI n u v) : RI n (xF_ u (upd (upd (xF u) 0 0) 1 0)) (mh_ (mf_ v 0) 0) := by
  obtain ⟨⟨r1, r2, r3, r4, r5, r6, r7, r8, r9, r10, r11, r12, r13, r14, r15, r16, r17⟩, hX, hM⟩ := h
  refine ⟨⟨?_, ?_, ?_, ?_, ?_, ?_, ?_, ?_, ?_, ?_, ?_, ?_, ?_, ?_, ?_, ?_, ?_⟩, hX.sF _, (hM.sf 0).sh 0⟩
  · (try simp only [ml_mt_, ml_ml_, ml_mv_, ml_ma_, ml_mg_, ml_me_, ml_mw_, ml_mb_, ml_md_, ml_mr_, ml_mV_, ml_mf_, ml_mh_, ml_mk_, ml_mR_, xA_xA_, xA_xF_, xA_xM_, xA_xS_, xA_xl_, xA_xn_, xA_xa_, xA_xg_, xA_xe_, xA_xw_, xA_xC_, xA_xc_]); exact r1
  · (try simp only [mv_mt_, mv_ml_, mv_mv_, mv_ma_, mv_mg_, mv_me_, mv_mw_, mv_mb_, mv_md_, mv_mr_, mv_mV_, mv_mf_, mv_mh_, mv_mk_, mv_mR_, xA_xA_, xA_xF_, xA_xM_, xA_xS_, xA_xl_, xA_xn_, xA_xa_, xA_xg_, xA_xe_, xA_xw_, xA_xC_, xA_xc_]); exact r2
  · simp only [mf_mt_, mf_ml_, mf_mv_, mf_ma_, mf_mg_, mf_me_, mf_mw_, mf_mb_, mf_md_, mf_mr_, mf_mV_, mf_mf_, mf_mh_, mf_mk_, mf_mR_, xF_xA_, xF_xF_, xF_xM_, xF_xS_, xF_xl_, xF_xn_, xF_xa_, xF_xg_, xF_xe_, xF_xw_, xF_xC_, xF_xc_]; rw [pk_un (by decide), pk_us]
  · simp only [mh_mt_, mh_ml_, mh_mv_, mh_ma_, mh_mg_, mh_me_, mh_mw_, mh_mb_, mh_md_, mh_mr_, mh_mV_, mh_mf_, mh_mh_, mh_mk_, mh_mR_, xF_xA_, xF_xF_, xF_xM_, xF_xS_, xF_xl_, xF_xn_, xF_xa_, xF_xg_, xF_xe_, xF_xw_, xF_xC_, xF_xc_]; rw [pk_us]
  · (try simp only [mV_mt_, mV_ml_, mV_mv_, mV_ma_, mV_mg_, mV_me_, mV_mw_, mV_mb_, mV_md_, mV_mr_, mV_mV_, mV_mf_, mV_mh_, mV_mk_, mV_mR_, xM_xA_, xM_xF_, xM_xM_, xM_xS_, xM_xl_, xM_xn_, xM_xa_, xM_xg_, xM_xe_, xM_xw_, xM_xC_, xM_xc_]); exact r5
  · (try simp only [mb_mt_, mb_ml_, mb_mv_, mb_ma_, mb_mg_, mb_me_, mb_mw_, mb_mb_, mb_md_, mb_mr_, mb_mV_, mb_mf_, mb_mh_, mb_mk_, mb_mR_, xS_xA_, xS_xF_, xS_xM_, xS_xS_, xS_xl_, xS_xn_, xS_xa_, xS_xg_, xS_xe_, xS_xw_, xS_xC_, xS_xc_]); exact r6
  · (try simp only [md_mt_, md_ml_, md_mv_, md_ma_, md_mg_, md_me_, md_mw_, md_mb_, md_md_, md_mr_, md_mV_, md_mf_, md_mh_, md_mk_, md_mR_, xS_xA_, xS_xF_, xS_xM_, xS_xS_, xS_xl_, xS_xn_, xS_xa_, xS_xg_, xS_xe_, xS_xw_, xS_xC_, xS_xc_]); exact r7
  · (try simp only [mr_mt_, mr_ml_, mr_mv_, mr_ma_, mr_mg_, mr_me_, mr_mw_, mr_mb_, mr_md_, mr_mr_, mr_mV_, mr_mf_, mr_mh_, mr_mk_, mr_mR_, xl_xA_, xl_xF_, xl_xM_, xl_xS_, xl_xl_, xl_xn_, xl_xa_, xl_xg_, xl_xe_, xl_xw_, xl_xC_, xl_xc_]); exact r8
  · (try simp only [me_mt_, me_ml_, me_mv_, me_ma_, me_mg_, me_me_, me_mw_, me_mb_, me_md_, me_mr_, me_mV_, me_mf_, me_mh_, me_mk_, me_mR_, xe_xA_, xe_xF_, xe_xM_, xe_xS_, xe_xl_, xe_xn_, xe_xa_, xe_xg_, xe_xe_, xe_xw_, xe_xC_, xe_xc_]); exact r9
  · (try simp only [mw_mt_, mw_ml_, mw_mv_, mw_ma_, mw_mg_, mw_me_, mw_mw_, mw_mb_, mw_md_, mw_mr_, mw_mV_, mw_mf_, mw_mh_, mw_mk_, mw_mR_, xw_xA_, xw_xF_, xw_xM_, xw_xS_, xw_xl_, xw_xn_, xw_xa_, xw_xg_, xw_xe_, xw_xw_, xw_xC_, xw_xc_]); exact r10
  · (try simp only [mg_mt_, mg_ml_, mg_mv_, mg_ma_, mg_mg_, mg_me_, mg_mw_, mg_mb_, mg_md_, mg_mr_, mg_mV_, mg_mf_, mg_mh_, mg_mk_, mg_mR_, xg_xA_, xg_xF_, xg_xM_, xg_xS_, xg_xl_, xg_xn_, xg_xa_, xg_xg_, xg_xe_, xg_xw_, xg_xC_, xg_xc_]); exact r11
  · refine Eq.trans (b := ma v) (by (try simp only [ma_mt_, ma_ml_, ma_mv_, ma_ma_, ma_mg_, ma_me_, ma_mw_, ma_mb_, ma_md_, ma_mr_, ma_mV_, ma_mf_, ma_mh_, ma_mk_, ma_mR_, xn_xA_, xn_xF_, xn_xM_, xn_xS_, xn_xl_, xn_xn_, xn_xa_, xn_xg_, xn_xe_, xn_xw_, xn_xC_, xn_xc_, xa_xA_, xa_xF_, xa_xM_, xa_xS_, xa_xl_, xa_xn_, xa_xa_, xa_xg_, xa_xe_, xa_xw_, xa_xC_, xa_xc_])) (r12.trans (arm_c (by (try simp only [ma_mt_, ma_ml_, ma_mv_, ma_ma_, ma_mg_, ma_me_, ma_mw_, ma_mb_, ma_md_, ma_mr_, ma_mV_, ma_mf_, ma_mh_, ma_mk_, ma_mR_, xn_xA_, xn_xF_, xn_xM_, xn_xS_, xn_xl_, xn_xn_, xn_xa_, xn_xg_, xn_xe_, xn_xw_, xn_xC_, xn_xc_, xa_xA_, xa_xF_, xa_xM_, xa_xS_, xa_xl_, xa_xn_, xa_xa_, xa_xg_, xa_xe_, xa_xw_, xa_xC_, xa_xc_])) (by (try simp only [ma_mt_, ma_ml_, ma_mv_, ma_ma_, ma_mg_, ma_me_, ma_mw_, ma_mb_, ma_md_, ma_mr_, ma_mV_, ma_mf_, ma_mh_, ma_mk_, ma_mR_, xn_xA_, xn_xF_, xn_xM_, xn_xS_, xn_xl_, xn_xn_, xn_xa_, xn_xg_, xn_xe_, xn_xw_, xn_xC_, xn_xc_, xa_xA_, xa_xF_, xa_xM_, xa_xS_, xa_xl_, xa_xn_, xa_xa_, xa_xg_, xa_xe_, xa_xw_, xa_xC_, xa_xc_]))))
  · (try simp only [xA_xA_, xA_xF_, xA_xM_, xA_xS_, xA_xl_, xA_xn_, xA_xa_, xA_xg_, xA_xe_, xA_xw_, xA_xC_, xA_xc_]); exact r13
  · (try simp only [xA_xA_, xA_xF_, xA_xM_, xA_xS_, xA_xl_, xA_xn_, xA_xa_, xA_xg_, xA_xe_, xA_xw_, xA_xC_, xA_xc_]); exact r14
  · simp only [xF_xA_, xF_xF_, xF_xM_, xF_xS_, xF_xl_, xF_xn_, xF_xa_, xF_xg_, xF_xe_, xF_xw_, xF_xC_, xF_xc_]; rw [pk_un (by decide), pk_us]; exact ⟨0, by decide, rfl⟩
  · simp only [xF_xA_, xF_xF_, xF_xM_, xF_xS_, xF_xl_, xF_xn_, xF_xa_, xF_xg_, xF_xe_, xF_xw_, xF_xC_, xF_xc_]; rw [pk_us]; exact ⟨0, by decide, rfl⟩
  · unfold LG; simp only [mk_mt_, mk_ml_, mk_mv_, mk_ma_, mk_mg_, mk_me_, mk_mw_, mk_mb_, mk_md_, mk_mr_, mk_mV_, mk_mf_, mk_mh_, mk_mk_, mk_mR_, mR_mt_, mR_ml_, mR_mv_, mR_ma_, mR_mg_, mR_me_, mR_mw_, mR_mb_, mR_md_, mR_mr_, mR_mV_, mR_mf_, mR_mh_, mR_mk_, mR_mR_, xc_xA_, xc_xF_, xc_xM_, xc_xS_, xc_xl_, xc_xn_, xc_xa_, xc_xg_, xc_xe_, xc_xw_, xc_xC_, xc_xc_, xC_xA_, xC_xF_, xC_xM_, xC_xS_, xC_xl_, xC_xn_, xC_xa_, xC_xg_, xC_xe_, xC_xw_, xC_xC_, xC_xc_]; exact r17
theorem sf_eq (u : XS) : pX0_stopFlashing u = xF_ u (upd (upd (xF u) 0 0) 1 0) := by
  unfold pX0_stopFlashing
  rw [tn0, tn1]
  exact XS_ext (by simp only [xA_xA_, xA_xF_, xA_xM_, xA_xS_, xA_xl_, xA_xn_, xA_xa_, xA_xg_, xA_xe_, xA_xw_, xA_xC_, xA_xc_]) (by simp only [xF_xA_, xF_xF_, xF_xM_, xF_xS_, xF_xl_, xF_xn_, xF_xa_, xF_xg_, xF_xe_, xF_xw_, xF_xC_, xF_xc_]) (by simp only [xM_xA_, xM_xF_, xM_xM_, xM_xS_, xM_xl_, xM_xn_, xM_xa_, xM_xg_, xM_xe_, xM_xw_, xM_xC_, xM_xc_]) (by simp only [xS_xA_, xS_xF_, xS_xM_, xS_xS_, xS_xl_, xS_xn_, xS_xa_, xS_xg_, xS_xe_, xS_xw_, xS_xC_, xS_xc_]) (by simp only [xl_xA_, xl_xF_, xl_xM_, xl_xS_, xl_xl_, xl_xn_, xl_xa_, xl_xg_, xl_xe_, xl_xw_, xl_xC_, xl_xc_]) (by simp only [xn_xA_, xn_xF_, xn_xM_, xn_xS_, xn_xl_, xn_xn_, xn_xa_, xn_xg_, xn_xe_, xn_xw_, xn_xC_, xn_xc_]) (by simp only [xa_xA_, xa_xF_, xa_xM_, xa_xS_, xa_xl_, xa_xn_, xa_xa_, xa_xg_, xa_xe_, xa_xw_, xa_xC_, xa_xc_]) (by simp only [xg_xA_, xg_xF_, xg_xM_, xg_xS_, xg_xl_, xg_xn_, xg_xa_, xg_xg_, xg_xe_, xg_xw_, xg_xC_, xg_xc_]) (by simp only [xe_xA_, xe_xF_, xe_xM_, xe_xS_, xe_xl_, xe_xn_, xe_xa_, xe_xg_, xe_xe_, xe_xw_, xe_xC_, xe_xc_]) (by simp only [xw_xA_, xw_xF_, xw_xM_, xw_xS_, xw_xl_, xw_xn_, xw_xa_, xw_xg_, xw_xe_, xw_xw_, xw_xC_, xw_xc_]) (by simp only [xC_xA_, xC_xF_, xC_xM_, xC_xS_, xC_xl_, xC_xn_, xC_xa_, xC_xg_, xC_xe_, xC_xw_, xC_xC_, xC_xc_]) (by simp only [xc_xA_, xc_xF_, xc_xM_, xc_xS_, xc_xl_, xc_xn_, xc_xa_, xc_xg_, xc_xe_, xc_xw_, xc_xC_, xc_xc_])
theorem S_stop {n : Nat} {u : XS} {v : MS} (h : RI n u v) : RI n (pX0_stopFlashing u) (mh_ (mf_ v 0) 0) := by rw [sf_eq]; exact S_fl0 h
theorem g_self (w : XS) : xg_ w (xg w) = w := XS_ext (by simp only [xA_xA_, xA_xF_, xA_xM_, xA_xS_, xA_xl_, xA_xn_, xA_xa_, xA_xg_, xA_xe_, xA_xw_, xA_xC_, xA_xc_]) (by simp only [xF_xA_, xF_xF_, xF_xM_, xF_xS_, xF_xl_, xF_xn_, xF_xa_, xF_xg_, xF_xe_, xF_xw_, xF_xC_, xF_xc_]) (by simp only [xM_xA_, xM_xF_, xM_xM_, xM_xS_, xM_xl_, xM_xn_, xM_xa_, xM_xg_, xM_xe_, xM_xw_, xM_xC_, xM_xc_]) (by simp only [xS_xA_, xS_xF_, xS_xM_, xS_xS_, xS_xl_, xS_xn_, xS_xa_, xS_xg_, xS_xe_, xS_xw_, xS_xC_, xS_xc_]) (by simp only [xl_xA_, xl_xF_, xl_xM_, xl_xS_, xl_xl_, xl_xn_, xl_xa_, xl_xg_, xl_xe_, xl_xw_, xl_xC_, xl_xc_]) (by simp only [xn_xA_, xn_xF_, xn_xM_, xn_xS_, xn_xl_, xn_xn_, xn_xa_, xn_xg_, xn_xe_, xn_xw_, xn_xC_, xn_xc_]) (by simp only [xa_xA_, xa_xF_, xa_xM_, xa_xS_, xa_xl_, xa_xn_, xa_xa_, xa_xg_, xa_xe_, xa_xw_, xa_xC_, xa_xc_]) (by simp only [xg_xA_, xg_xF_, xg_xM_, xg_xS_, xg_xl_, xg_xn_, xg_xa_, xg_xg_, xg_xe_, xg_xw_, xg_xC_, xg_xc_]) (by simp only [xe_xA_, xe_xF_, xe_xM_, xe_xS_, xe_xl_, xe_xn_, xe_xa_, xe_xg_, xe_xe_, xe_xw_, xe_xC_, xe_xc_]) (by simp only [xw_xA_, xw_xF_, xw_xM_, xw_xS_, xw_xl_, xw_xn_, xw_xa_, xw_xg_, xw_xe_, xw_xw_, xw_xC_, xw_xc_]) (by simp only [xC_xA_, xC_xF_, xC_xM_, xC_xS_, xC_xl_, xC_xn_, xC_xa_, xC_xg_, xC_xe_, xC_xw_, xC_xC_, xC_xc_]) (by simp only [xc_xA_, xc_xF_, xc_xM_, xc_xS_, xc_xl_, xc_xn_, xc_xa_, xc_xg_, xc_xe_, xc_xw_, xc_xC_, xc_xc_])
theorem mg_self (w : MS) : mg_ w (mg w) = w := MS_ext (by simp only [mt_mt_, mt_ml_, mt_mv_, mt_ma_, mt_mg_, mt_me_, mt_mw_, mt_mb_, mt_md_, mt_mr_, mt_mV_, mt_mf_, mt_mh_, mt_mk_, mt_mR_]) (by simp only [ml_mt_, ml_ml_, ml_mv_, ml_ma_, ml_mg_, ml_me_, ml_mw_, ml_mb_, ml_md_, ml_mr_, ml_mV_, ml_mf_, ml_mh_, ml_mk_, ml_mR_]) (by simp only [mv_mt_, mv_ml_, mv_mv_, mv_ma_, mv_mg_, mv_me_, mv_mw_, mv_mb_, mv_md_, mv_mr_, mv_mV_, mv_mf_, mv_mh_, mv_mk_, mv_mR_]) (by simp only [ma_mt_, ma_ml_, ma_mv_, ma_ma_, ma_mg_, ma_me_, ma_mw_, ma_mb_, ma_md_, ma_mr_, ma_mV_, ma_mf_, ma_mh_, ma_mk_, ma_mR_]) (by simp only [mg_mt_, mg_ml_, mg_mv_, mg_ma_, mg_mg_, mg_me_, mg_mw_, mg_mb_, mg_md_, mg_mr_, mg_mV_, mg_mf_, mg_mh_, mg_mk_, mg_mR_]) (by simp only [me_mt_, me_ml_, me_mv_, me_ma_, me_mg_, me_me_, me_mw_, me_mb_, me_md_, me_mr_, me_mV_, me_mf_, me_mh_, me_mk_, me_mR_]) (by simp only [mw_mt_, mw_ml_, mw_mv_, mw_ma_, mw_mg_, mw_me_, mw_mw_, mw_mb_, mw_md_, mw_mr_, mw_mV_, mw_mf_, mw_mh_, mw_mk_, mw_mR_]) (by simp only [mb_mt_, mb_ml_, mb_mv_, mb_ma_, mb_mg_, mb_me_, mb_mw_, mb_mb_, mb_md_, mb_mr_, mb_mV_, mb_mf_, mb_mh_, mb_mk_, mb_mR_]) (by simp only [md_mt_, md_ml_, md_mv_, md_ma_, md_mg_, md_me_, md_mw_, md_mb_, md_md_, md_mr_, md_mV_, md_mf_, md_mh_, md_mk_, md_mR_]) (by simp only [mr_mt_, mr_ml_, mr_mv_, mr_ma_, mr_mg_, mr_me_, mr_mw_, mr_mb_, mr_md_, mr_mr_, mr_mV_, mr_mf_, mr_mh_, mr_mk_, mr_mR_]) (by simp only [mV_mt_, mV_ml_, mV_mv_, mV_ma_, mV_mg_, mV_me_, mV_mw_, mV_mb_, mV_md_, mV_mr_, mV_mV_, mV_mf_, mV_mh_, mV_mk_, mV_mR_]) (by simp only [mf_mt_, mf_ml_, mf_mv_, mf_ma_, mf_mg_, mf_me_, mf_mw_, mf_mb_, mf_md_, mf_mr_, mf_mV_, mf_mf_, mf_mh_, mf_mk_, mf_mR_]) (by simp only [mh_mt_, mh_ml_, mh_mv_, mh_ma_, mh_mg_, mh_me_, mh_mw_, mh_mb_, mh_md_, mh_mr_, mh_mV_, mh_mf_, mh_mh_, mh_mk_, mh_mR_]) (by simp only [mk_mt_, mk_ml_, mk_mv_, mk_ma_, mk_mg_, mk_me_, mk_mw_, mk_mb_, mk_md_, mk_mr_, mk_mV_, mk_mf_, mk_mh_, mk_mk_, mk_mR_]) (by simp only [mR_mt_, mR_ml_, mR_mv_, mR_ma_, mR_mg_, mR_me_, mR_mw_, mR_mb_, mR_md_, mR_mr_, mR_mV_, mR_mf_, mR_mh_, mR_mk_, mR_mR_])
theorem ma_self (w : MS) : ma_ w (ma w) = w := MS_ext (by simp only [mt_mt_, mt_ml_, mt_mv_, mt_ma_, mt_mg_, mt_me_, mt_mw_, mt_mb_, mt_md_, mt_mr_, mt_mV_, mt_mf_, mt_mh_, mt_mk_, mt_mR_]) (by simp only [ml_mt_, ml_ml_, ml_mv_, ml_ma_, ml_mg_, ml_me_, ml_mw_, ml_mb_, ml_md_, ml_mr_, ml_mV_, ml_mf_, ml_mh_, ml_mk_, ml_mR_]) (by simp only [mv_mt_, mv_ml_, mv_mv_, mv_ma_, mv_mg_, mv_me_, mv_mw_, mv_mb_, mv_md_, mv_mr_, mv_mV_, mv_mf_, mv_mh_, mv_mk_, mv_mR_]) (by simp only [ma_mt_, ma_ml_, ma_mv_, ma_ma_, ma_mg_, ma_me_, ma_mw_, ma_mb_, ma_md_, ma_mr_, ma_mV_, ma_mf_, ma_mh_, ma_mk_, ma_mR_]) (by simp only [mg_mt_, mg_ml_, mg_mv_, mg_ma_, mg_mg_, mg_me_, mg_mw_, mg_mb_, mg_md_, mg_mr_, mg_mV_, mg_mf_, mg_mh_, mg_mk_, mg_mR_]) (by simp only [me_mt_, me_ml_, me_mv_, me_ma_, me_mg_, me_me_, me_mw_, me_mb_, me_md_, me_mr_, me_mV_, me_mf_, me_mh_, me_mk_, me_mR_]) (by simp only [mw_mt_, mw_ml_, mw_mv_, mw_ma_, mw_mg_, mw_me_, mw_mw_, mw_mb_, mw_md_, mw_mr_, mw_mV_, mw_mf_, mw_mh_, mw_mk_, mw_mR_]) (by simp only [mb_mt_, mb_ml_, mb_mv_, mb_ma_, mb_mg_, mb_me_, mb_mw_, mb_mb_, mb_md_, mb_mr_, mb_mV_, mb_mf_, mb_mh_, mb_mk_, mb_mR_]) (by simp only [md_mt_, md_ml_, md_mv_, md_ma_, md_mg_, md_me_, md_mw_, md_mb_, md_md_, md_mr_, md_mV_, md_mf_, md_mh_, md_mk_, md_mR_]) (by simp only [mr_mt_, mr_ml_, mr_mv_, mr_ma_, mr_mg_, mr_me_, mr_mw_, mr_mb_, mr_md_, mr_mr_, mr_mV_, mr_mf_, mr_mh_, mr_mk_, mr_mR_]) (by simp only [mV_mt_, mV_ml_, mV_mv_, mV_ma_, mV_mg_, mV_me_, mV_mw_, mV_mb_, mV_md_, mV_mr_, mV_mV_, mV_mf_, mV_mh_, mV_mk_, mV_mR_]) (by simp only [mf_mt_, mf_ml_, mf_mv_, mf_ma_, mf_mg_, mf_me_, mf_mw_, mf_mb_, mf_md_, mf_mr_, mf_mV_, mf_mf_, mf_mh_, mf_mk_, mf_mR_]) (by simp only [mh_mt_, mh_ml_, mh_mv_, mh_ma_, mh_mg_, mh_me_, mh_mw_, mh_mb_, mh_md_, mh_mr_, mh_mV_, mh_mf_, mh_mh_, mh_mk_, mh_mR_]) (by simp only [mk_mt_, mk_ml_, mk_mv_, mk_ma_, mk_mg_, mk_me_, mk_mw_, mk_mb_, mk_md_, mk_mr_, mk_mV_, mk_mf_, mk_mh_, mk_mk_, mk_mR_]) (by simp only [mR_mt_, mR_ml_, mR_mv_, mR_ma_, mR_mg_, mR_me_, mR_mw_, mR_mb_, mR_md_, mR_mr_, mR_mV_, mR_mf_, mR_mh_, mR_mk_, mR_mR_])
theorem ew_self (w : MS) : me_ (mw_ w (mw w)) (me w) = w := MS_ext (by simp only [mt_mt_, mt_ml_, mt_mv_, mt_ma_, mt_mg_, mt_me_, mt_mw_, mt_mb_, mt_md_, mt_mr_, mt_mV_, mt_mf_, mt_mh_, mt_mk_, mt_mR_]) (by simp only [ml_mt_, ml_ml_, ml_mv_, ml_ma_, ml_mg_, ml_me_, ml_mw_, ml_mb_, ml_md_, ml_mr_, ml_mV_, ml_mf_, ml_mh_, ml_mk_, ml_mR_]) (by simp only [mv_mt_, mv_ml_, mv_mv_, mv_ma_, mv_mg_, mv_me_, mv_mw_, mv_mb_, mv_md_, mv_mr_, mv_mV_, mv_mf_, mv_mh_, mv_mk_, mv_mR_]) (by simp only [ma_mt_, ma_ml_, ma_mv_, ma_ma_, ma_mg_, ma_me_, ma_mw_, ma_mb_, ma_md_, ma_mr_, ma_mV_, ma_mf_, ma_mh_, ma_mk_, ma_mR_]) (by simp only [mg_mt_, mg_ml_, mg_mv_, mg_ma_, mg_mg_, mg_me_, mg_mw_, mg_mb_, mg_md_, mg_mr_, mg_mV_, mg_mf_, mg_mh_, mg_mk_, mg_mR_]) (by simp only [me_mt_, me_ml_, me_mv_, me_ma_, me_mg_, me_me_, me_mw_, me_mb_, me_md_, me_mr_, me_mV_, me_mf_, me_mh_, me_mk_, me_mR_]) (by simp only [mw_mt_, mw_ml_, mw_mv_, mw_ma_, mw_mg_, mw_me_, mw_mw_, mw_mb_, mw_md_, mw_mr_, mw_mV_, mw_mf_, mw_mh_, mw_mk_, mw_mR_]) (by simp only [mb_mt_, mb_ml_, mb_mv_, mb_ma_, mb_mg_, mb_me_, mb_mw_, mb_mb_, mb_md_, mb_mr_, mb_mV_, mb_mf_, mb_mh_, mb_mk_, mb_mR_]) (by simp only [md_mt_, md_ml_, md_mv_, md_ma_, md_mg_, md_me_, md_mw_, md_mb_, md_md_, md_mr_, md_mV_, md_mf_, md_mh_, md_mk_, md_mR_]) (by simp only [mr_mt_, mr_ml_, mr_mv_, mr_ma_, mr_mg_, mr_me_, mr_mw_, mr_mb_, mr_md_, mr_mr_, mr_mV_, mr_mf_, mr_mh_, mr_mk_, mr_mR_]) (by simp only [mV_mt_, mV_ml_, mV_mv_, mV_ma_, mV_mg_, mV_me_, mV_mw_, mV_mb_, mV_md_, mV_mr_, mV_mV_, mV_mf_, mV_mh_, mV_mk_, mV_mR_]) (by simp only [mf_mt_, mf_ml_, mf_mv_, mf_ma_, mf_mg_, mf_me_, mf_mw_, mf_mb_, mf_md_, mf_mr_, mf_mV_, mf_mf_, mf_mh_, mf_mk_, mf_mR_]) (by simp only [mh_mt_, mh_ml_, mh_mv_, mh_ma_, mh_mg_, mh_me_, mh_mw_, mh_mb_, mh_md_, mh_mr_, mh_mV_, mh_mf_, mh_mh_, mh_mk_, mh_mR_]) (by simp only [mk_mt_, mk_ml_, mk_mv_, mk_ma_, mk_mg_, mk_me_, mk_mw_, mk_mb_, mk_md_, mk_mr_, mk_mV_, mk_mf_, mk_mh_, mk_mk_, mk_mR_]) (by simp only [mR_mt_, mR_ml_, mR_mv_, mR_ma_, mR_mg_, mR_me_, mR_mw_, mR_mb_, mR_md_, mR_mr_, mR_mV_, mR_mf_, mR_mh_, mR_mk_, mR_mR_])
theorem S_gl {n : Nat} {u : XS} {v : MS} (h : RI n u v) {y : Int32} (hy : bz y) : RI n (xg_ u y) (mg_ v y) := by
  obtain ⟨⟨r1, r2, r3, r4, r5, r6, r7, r8, r9, r10, r11, r12, r13, r14, r15, r16, r17⟩, hX, hM⟩ := h
  refine ⟨⟨?_, ?_, ?_, ?_, ?_, ?_, ?_, ?_, ?_, ?_, ?_, ?_, ?_, ?_, ?_, ?_, ?_⟩, hX.sg hy, hM.sg hy⟩
  · (try simp only [ml_mt_, ml_ml_, ml_mv_, ml_ma_, ml_mg_, ml_me_, ml_mw_, ml_mb_, ml_md_, ml_mr_, ml_mV_, ml_mf_, ml_mh_, ml_mk_, ml_mR_, xA_xA_, xA_xF_, xA_xM_, xA_xS_, xA_xl_, xA_xn_, xA_xa_, xA_xg_, xA_xe_, xA_xw_, xA_xC_, xA_xc_]); exact r1
  · (try simp only [mv_mt_, mv_ml_, mv_mv_, mv_ma_, mv_mg_, mv_me_, mv_mw_, mv_mb_, mv_md_, mv_mr_, mv_mV_, mv_mf_, mv_mh_, mv_mk_, mv_mR_, xA_xA_, xA_xF_, xA_xM_, xA_xS_, xA_xl_, xA_xn_, xA_xa_, xA_xg_, xA_xe_, xA_xw_, xA_xC_, xA_xc_]); exact r2
  · (try simp only [mf_mt_, mf_ml_, mf_mv_, mf_ma_, mf_mg_, mf_me_, mf_mw_, mf_mb_, mf_md_, mf_mr_, mf_mV_, mf_mf_, mf_mh_, mf_mk_, mf_mR_, xF_xA_, xF_xF_, xF_xM_, xF_xS_, xF_xl_, xF_xn_, xF_xa_, xF_xg_, xF_xe_, xF_xw_, xF_xC_, xF_xc_]); exact r3
  · (try simp only [mh_mt_, mh_ml_, mh_mv_, mh_ma_, mh_mg_, mh_me_, mh_mw_, mh_mb_, mh_md_, mh_mr_, mh_mV_, mh_mf_, mh_mh_, mh_mk_, mh_mR_, xF_xA_, xF_xF_, xF_xM_, xF_xS_, xF_xl_, xF_xn_, xF_xa_, xF_xg_, xF_xe_, xF_xw_, xF_xC_, xF_xc_]); exact r4
  · (try simp only [mV_mt_, mV_ml_, mV_mv_, mV_ma_, mV_mg_, mV_me_, mV_mw_, mV_mb_, mV_md_, mV_mr_, mV_mV_, mV_mf_, mV_mh_, mV_mk_, mV_mR_, xM_xA_, xM_xF_, xM_xM_, xM_xS_, xM_xl_, xM_xn_, xM_xa_, xM_xg_, xM_xe_, xM_xw_, xM_xC_, xM_xc_]); exact r5
  · (try simp only [mb_mt_, mb_ml_, mb_mv_, mb_ma_, mb_mg_, mb_me_, mb_mw_, mb_mb_, mb_md_, mb_mr_, mb_mV_, mb_mf_, mb_mh_, mb_mk_, mb_mR_, xS_xA_, xS_xF_, xS_xM_, xS_xS_, xS_xl_, xS_xn_, xS_xa_, xS_xg_, xS_xe_, xS_xw_, xS_xC_, xS_xc_]); exact r6
  · (try simp only [md_mt_, md_ml_, md_mv_, md_ma_, md_mg_, md_me_, md_mw_, md_mb_, md_md_, md_mr_, md_mV_, md_mf_, md_mh_, md_mk_, md_mR_, xS_xA_, xS_xF_, xS_xM_, xS_xS_, xS_xl_, xS_xn_, xS_xa_, xS_xg_, xS_xe_, xS_xw_, xS_xC_, xS_xc_]); exact r7
  · (try simp only [mr_mt_, mr_ml_, mr_mv_, mr_ma_, mr_mg_, mr_me_, mr_mw_, mr_mb_, mr_md_, mr_mr_, mr_mV_, mr_mf_, mr_mh_, mr_mk_, mr_mR_, xl_xA_, xl_xF_, xl_xM_, xl_xS_, xl_xl_, xl_xn_, xl_xa_, xl_xg_, xl_xe_, xl_xw_, xl_xC_, xl_xc_]); exact r8
  · (try simp only [me_mt_, me_ml_, me_mv_, me_ma_, me_mg_, me_me_, me_mw_, me_mb_, me_md_, me_mr_, me_mV_, me_mf_, me_mh_, me_mk_, me_mR_, xe_xA_, xe_xF_, xe_xM_, xe_xS_, xe_xl_, xe_xn_, xe_xa_, xe_xg_, xe_xe_, xe_xw_, xe_xC_, xe_xc_]); exact r9
  · (try simp only [mw_mt_, mw_ml_, mw_mv_, mw_ma_, mw_mg_, mw_me_, mw_mw_, mw_mb_, mw_md_, mw_mr_, mw_mV_, mw_mf_, mw_mh_, mw_mk_, mw_mR_, xw_xA_, xw_xF_, xw_xM_, xw_xS_, xw_xl_, xw_xn_, xw_xa_, xw_xg_, xw_xe_, xw_xw_, xw_xC_, xw_xc_]); exact r10
  · simp only [mg_mt_, mg_ml_, mg_mv_, mg_ma_, mg_mg_, mg_me_, mg_mw_, mg_mb_, mg_md_, mg_mr_, mg_mV_, mg_mf_, mg_mh_, mg_mk_, mg_mR_, xg_xA_, xg_xF_, xg_xM_, xg_xS_, xg_xl_, xg_xn_, xg_xa_, xg_xg_, xg_xe_, xg_xw_, xg_xC_, xg_xc_]
  · refine Eq.trans (b := ma v) (by (try simp only [ma_mt_, ma_ml_, ma_mv_, ma_ma_, ma_mg_, ma_me_, ma_mw_, ma_mb_, ma_md_, ma_mr_, ma_mV_, ma_mf_, ma_mh_, ma_mk_, ma_mR_, xn_xA_, xn_xF_, xn_xM_, xn_xS_, xn_xl_, xn_xn_, xn_xa_, xn_xg_, xn_xe_, xn_xw_, xn_xC_, xn_xc_, xa_xA_, xa_xF_, xa_xM_, xa_xS_, xa_xl_, xa_xn_, xa_xa_, xa_xg_, xa_xe_, xa_xw_, xa_xC_, xa_xc_])) (r12.trans (arm_c (by (try simp only [ma_mt_, ma_ml_, ma_mv_, ma_ma_, ma_mg_, ma_me_, ma_mw_, ma_mb_, ma_md_, ma_mr_, ma_mV_, ma_mf_, ma_mh_, ma_mk_, ma_mR_, xn_xA_, xn_xF_, xn_xM_, xn_xS_, xn_xl_, xn_xn_, xn_xa_, xn_xg_, xn_xe_, xn_xw_, xn_xC_, xn_xc_, xa_xA_, xa_xF_, xa_xM_, xa_xS_, xa_xl_, xa_xn_, xa_xa_, xa_xg_, xa_xe_, xa_xw_, xa_xC_, xa_xc_])) (by (try simp only [ma_mt_, ma_ml_, ma_mv_, ma_ma_, ma_mg_, ma_me_, ma_mw_, ma_mb_, ma_md_, ma_mr_, ma_mV_, ma_mf_, ma_mh_, ma_mk_, ma_mR_, xn_xA_, xn_xF_, xn_xM_, xn_xS_, xn_xl_, xn_xn_, xn_xa_, xn_xg_, xn_xe_, xn_xw_, xn_xC_, xn_xc_, xa_xA_, xa_xF_, xa_xM_, xa_xS_, xa_xl_, xa_xn_, xa_xa_, xa_xg_, xa_xe_, xa_xw_, xa_xC_, xa_xc_]))))
  · (try simp only [xA_xA_, xA_xF_, xA_xM_, xA_xS_, xA_xl_, xA_xn_, xA_xa_, xA_xg_, xA_xe_, xA_xw_, xA_xC_, xA_xc_]); exact r13
  · (try simp only [xA_xA_, xA_xF_, xA_xM_, xA_xS_, xA_xl_, xA_xn_, xA_xa_, xA_xg_, xA_xe_, xA_xw_, xA_xC_, xA_xc_]); exact r14
  · (try simp only [xF_xA_, xF_xF_, xF_xM_, xF_xS_, xF_xl_, xF_xn_, xF_xa_, xF_xg_, xF_xe_, xF_xw_, xF_xC_, xF_xc_]); exact r15
  · (try simp only [xF_xA_, xF_xF_, xF_xM_, xF_xS_, xF_xl_, xF_xn_, xF_xa_, xF_xg_, xF_xe_, xF_xw_, xF_xC_, xF_xc_]); exact r16
  · unfold LG; simp only [mk_mt_, mk_ml_, mk_mv_, mk_ma_, mk_mg_, mk_me_, mk_mw_, mk_mb_, mk_md_, mk_mr_, mk_mV_, mk_mf_, mk_mh_, mk_mk_, mk_mR_, mR_mt_, mR_ml_, mR_mv_, mR_ma_, mR_mg_, mR_me_, mR_mw_, mR_mb_, mR_md_, mR_mr_, mR_mV_, mR_mf_, mR_mh_, mR_mk_, mR_mR_, xc_xA_, xc_xF_, xc_xM_, xc_xS_, xc_xl_, xc_xn_, xc_xa_, xc_xg_, xc_xe_, xc_xw_, xc_xC_, xc_xc_, xC_xA_, xC_xF_, xC_xM_, xC_xS_, xC_xl_, xC_xn_, xC_xa_, xC_xg_, xC_xe_, xC_xw_, xC_xC_, xC_xc_]; exact r17
theorem S_ew {n : Nat} {u : XS} {v : MS} (h : RI n u v) : RI n (xw_ (xe_ u 0) 1) (me_ (mw_ v 1) 0) := by
  obtain ⟨⟨r1, r2, r3, r4, r5, r6, r7, r8, r9, r10, r11, r12, r13, r14, r15, r16, r17⟩, hX, hM⟩ := h
  refine ⟨⟨?_, ?_, ?_, ?_, ?_, ?_, ?_, ?_, ?_, ?_, ?_, ?_, ?_, ?_, ?_, ?_, ?_⟩, (hX.se bz0).sw bz1, (hM.sw bz1).se bz0⟩
  · (try simp only [ml_mt_, ml_ml_, ml_mv_, ml_ma_, ml_mg_, ml_me_, ml_mw_, ml_mb_, ml_md_, ml_mr_, ml_mV_, ml_mf_, ml_mh_, ml_mk_, ml_mR_, xA_xA_, xA_xF_, xA_xM_, xA_xS_, xA_xl_, xA_xn_, xA_xa_, xA_xg_, xA_xe_, xA_xw_, xA_xC_, xA_xc_]); exact r1
  · (try simp only [mv_mt_, mv_ml_, mv_mv_, mv_ma_, mv_mg_, mv_me_, mv_mw_, mv_mb_, mv_md_, mv_mr_, mv_mV_, mv_mf_, mv_mh_, mv_mk_, mv_mR_, xA_xA_, xA_xF_, xA_xM_, xA_xS_, xA_xl_, xA_xn_, xA_xa_, xA_xg_, xA_xe_, xA_xw_, xA_xC_, xA_xc_]); exact r2
  · (try simp only [mf_mt_, mf_ml_, mf_mv_, mf_ma_, mf_mg_, mf_me_, mf_mw_, mf_mb_, mf_md_, mf_mr_, mf_mV_, mf_mf_, mf_mh_, mf_mk_, mf_mR_, xF_xA_, xF_xF_, xF_xM_, xF_xS_, xF_xl_, xF_xn_, xF_xa_, xF_xg_, xF_xe_, xF_xw_, xF_xC_, xF_xc_]); exact r3
  · (try simp only [mh_mt_, mh_ml_, mh_mv_, mh_ma_, mh_mg_, mh_me_, mh_mw_, mh_mb_, mh_md_, mh_mr_, mh_mV_, mh_mf_, mh_mh_, mh_mk_, mh_mR_, xF_xA_, xF_xF_, xF_xM_, xF_xS_, xF_xl_, xF_xn_, xF_xa_, xF_xg_, xF_xe_, xF_xw_, xF_xC_, xF_xc_]); exact r4
  · (try simp only [mV_mt_, mV_ml_, mV_mv_, mV_ma_, mV_mg_, mV_me_, mV_mw_, mV_mb_, mV_md_, mV_mr_, mV_mV_, mV_mf_, mV_mh_, mV_mk_, mV_mR_, xM_xA_, xM_xF_, xM_xM_, xM_xS_, xM_xl_, xM_xn_, xM_xa_, xM_xg_, xM_xe_, xM_xw_, xM_xC_, xM_xc_]); exact r5
  · (try simp only [mb_mt_, mb_ml_, mb_mv_, mb_ma_, mb_mg_, mb_me_, mb_mw_, mb_mb_, mb_md_, mb_mr_, mb_mV_, mb_mf_, mb_mh_, mb_mk_, mb_mR_, xS_xA_, xS_xF_, xS_xM_, xS_xS_, xS_xl_, xS_xn_, xS_xa_, xS_xg_, xS_xe_, xS_xw_, xS_xC_, xS_xc_]); exact r6
  · (try simp only [md_mt_, md_ml_, md_mv_, md_ma_, md_mg_, md_me_, md_mw_, md_mb_, md_md_, md_mr_, md_mV_, md_mf_, md_mh_, md_mk_, md_mR_, xS_xA_, xS_xF_, xS_xM_, xS_xS_, xS_xl_, xS_xn_, xS_xa_, xS_xg_, xS_xe_, xS_xw_, xS_xC_, xS_xc_]); exact r7
  · (try simp only [mr_mt_, mr_ml_, mr_mv_, mr_ma_, mr_mg_, mr_me_, mr_mw_, mr_mb_, mr_md_, mr_mr_, mr_mV_, mr_mf_, mr_mh_, mr_mk_, mr_mR_, xl_xA_, xl_xF_, xl_xM_, xl_xS_, xl_xl_, xl_xn_, xl_xa_, xl_xg_, xl_xe_, xl_xw_, xl_xC_, xl_xc_]); exact r8
  · simp only [me_mt_, me_ml_, me_mv_, me_ma_, me_mg_, me_me_, me_mw_, me_mb_, me_md_, me_mr_, me_mV_, me_mf_, me_mh_, me_mk_, me_mR_, xe_xA_, xe_xF_, xe_xM_, xe_xS_, xe_xl_, xe_xn_, xe_xa_, xe_xg_, xe_xe_, xe_xw_, xe_xC_, xe_xc_]
  · simp only [mw_mt_, mw_ml_, mw_mv_, mw_ma_, mw_mg_, mw_me_, mw_mw_, mw_mb_, mw_md_, mw_mr_, mw_mV_, mw_mf_, mw_mh_, mw_mk_, mw_mR_, xw_xA_, xw_xF_, xw_xM_, xw_xS_, xw_xl_, xw_xn_, xw_xa_, xw_xg_, xw_xe_, xw_xw_, xw_xC_, xw_xc_]
  · (try simp only [mg_mt_, mg_ml_, mg_mv_, mg_ma_, mg_mg_, mg_me_, mg_mw_, mg_mb_, mg_md_, mg_mr_, mg_mV_, mg_mf_, mg_mh_, mg_mk_, mg_mR_, xg_xA_, xg_xF_, xg_xM_, xg_xS_, xg_xl_, xg_xn_, xg_xa_, xg_xg_, xg_xe_, xg_xw_, xg_xC_, xg_xc_]); exact r11
  · refine Eq.trans (b := ma v) (by (try simp only [ma_mt_, ma_ml_, ma_mv_, ma_ma_, ma_mg_, ma_me_, ma_mw_, ma_mb_, ma_md_, ma_mr_, ma_mV_, ma_mf_, ma_mh_, ma_mk_, ma_mR_, xn_xA_, xn_xF_, xn_xM_, xn_xS_, xn_xl_, xn_xn_, xn_xa_, xn_xg_, xn_xe_, xn_xw_, xn_xC_, xn_xc_, xa_xA_, xa_xF_, xa_xM_, xa_xS_, xa_xl_, xa_xn_, xa_xa_, xa_xg_, xa_xe_, xa_xw_, xa_xC_, xa_xc_])) (r12.trans (arm_c (by (try simp only [ma_mt_, ma_ml_, ma_mv_, ma_ma_, ma_mg_, ma_me_, ma_mw_, ma_mb_, ma_md_, ma_mr_, ma_mV_, ma_mf_, ma_mh_, ma_mk_, ma_mR_, xn_xA_, xn_xF_, xn_xM_, xn_xS_, xn_xl_, xn_xn_, xn_xa_, xn_xg_, xn_xe_, xn_xw_, xn_xC_, xn_xc_, xa_xA_, xa_xF_, xa_xM_, xa_xS_, xa_xl_, xa_xn_, xa_xa_, xa_xg_, xa_xe_, xa_xw_, xa_xC_, xa_xc_])) (by (try simp only [ma_mt_, ma_ml_, ma_mv_, ma_ma_, ma_mg_, ma_me_, ma_mw_, ma_mb_, ma_md_, ma_mr_, ma_mV_, ma_mf_, ma_mh_, ma_mk_, ma_mR_, xn_xA_, xn_xF_, xn_xM_, xn_xS_, xn_xl_, xn_xn_, xn_xa_, xn_xg_, xn_xe_, xn_xw_, xn_xC_, xn_xc_, xa_xA_, xa_xF_, xa_xM_, xa_xS_, xa_xl_, xa_xn_, xa_xa_, xa_xg_, xa_xe_, xa_xw_, xa_xC_, xa_xc_]))))
  · (try simp only [xA_xA_, xA_xF_, xA_xM_, xA_xS_, xA_xl_, xA_xn_, xA_xa_, xA_xg_, xA_xe_, xA_xw_, xA_xC_, xA_xc_]); exact r13
  · (try simp only [xA_xA_, xA_xF_, xA_xM_, xA_xS_, xA_xl_, xA_xn_, xA_xa_, xA_xg_, xA_xe_, xA_xw_, xA_xC_, xA_xc_]); exact r14
  · (try simp only [xF_xA_, xF_xF_, xF_xM_, xF_xS_, xF_xl_, xF_xn_, xF_xa_, xF_xg_, xF_xe_, xF_xw_, xF_xC_, xF_xc_]); exact r15
  · (try simp only [xF_xA_, xF_xF_, xF_xM_, xF_xS_, xF_xl_, xF_xn_, xF_xa_, xF_xg_, xF_xe_, xF_xw_, xF_xC_, xF_xc_]); exact r16
  · unfold LG; simp only [mk_mt_, mk_ml_, mk_mv_, mk_ma_, mk_mg_, mk_me_, mk_mw_, mk_mb_, mk_md_, mk_mr_, mk_mV_, mk_mf_, mk_mh_, mk_mk_, mk_mR_, mR_mt_, mR_ml_, mR_mv_, mR_ma_, mR_mg_, mR_me_, mR_mw_, mR_mb_, mR_md_, mR_mr_, mR_mV_, mR_mf_, mR_mh_, mR_mk_, mR_mR_, xc_xA_, xc_xF_, xc_xM_, xc_xS_, xc_xl_, xc_xn_, xc_xa_, xc_xg_, xc_xe_, xc_xw_, xc_xC_, xc_xc_, xC_xA_, xC_xF_, xC_xM_, xC_xS_, xC_xl_, xC_xn_, xC_xa_, xC_xg_, xC_xe_, xC_xw_, xC_xC_, xC_xc_]; exact r17
theorem S_en {n : Nat} {u : XS} {v : MS} (h : RI n u v) : RI n (xe_ u 1) (me_ v 1) := by
  obtain ⟨⟨r1, r2, r3, r4, r5, r6, r7, r8, r9, r10, r11, r12, r13, r14, r15, r16, r17⟩, hX, hM⟩ := h
  refine ⟨⟨?_, ?_, ?_, ?_, ?_, ?_, ?_, ?_, ?_, ?_, ?_, ?_, ?_, ?_, ?_, ?_, ?_⟩, hX.se bz1, hM.se bz1⟩
  · (try simp only [ml_mt_, ml_ml_, ml_mv_, ml_ma_, ml_mg_, ml_me_, ml_mw_, ml_mb_, ml_md_, ml_mr_, ml_mV_, ml_mf_, ml_mh_, ml_mk_, ml_mR_, xA_xA_, xA_xF_, xA_xM_, xA_xS_, xA_xl_, xA_xn_, xA_xa_, xA_xg_, xA_xe_, xA_xw_, xA_xC_, xA_xc_]); exact r1
  · (try simp only [mv_mt_, mv_ml_, mv_mv_, mv_ma_, mv_mg_, mv_me_, mv_mw_, mv_mb_, mv_md_, mv_mr_, mv_mV_, mv_mf_, mv_mh_, mv_mk_, mv_mR_, xA_xA_, xA_xF_, xA_xM_, xA_xS_, xA_xl_, xA_xn_, xA_xa_, xA_xg_, xA_xe_, xA_xw_, xA_xC_, xA_xc_]); exact r2
  · (try simp only [mf_mt_, mf_ml_, mf_mv_, mf_ma_, mf_mg_, mf_me_, mf_mw_, mf_mb_, mf_md_, mf_mr_, mf_mV_, mf_mf_, mf_mh_, mf_mk_, mf_mR_, xF_xA_, xF_xF_, xF_xM_, xF_xS_, xF_xl_, xF_xn_, xF_xa_, xF_xg_, xF_xe_, xF_xw_, xF_xC_, xF_xc_]); exact r3
  · (try simp only [mh_mt_, mh_ml_, mh_mv_, mh_ma_, mh_mg_, mh_me_, mh_mw_, mh_mb_, mh_md_, mh_mr_, mh_mV_, mh_mf_, mh_mh_, mh_mk_, mh_mR_, xF_xA_, xF_xF_, xF_xM_, xF_xS_, xF_xl_, xF_xn_, xF_xa_, xF_xg_, xF_xe_, xF_xw_, xF_xC_, xF_xc_]); exact r4
  · (try simp only [mV_mt_, mV_ml_, mV_mv_, mV_ma_, mV_mg_, mV_me_, mV_mw_, mV_mb_, mV_md_, mV_mr_, mV_mV_, mV_mf_, mV_mh_, mV_mk_, mV_mR_, xM_xA_, xM_xF_, xM_xM_, xM_xS_, xM_xl_, xM_xn_, xM_xa_, xM_xg_, xM_xe_, xM_xw_, xM_xC_, xM_xc_]); exact r5
  · (try simp only [mb_mt_, mb_ml_, mb_mv_, mb_ma_, mb_mg_, mb_me_, mb_mw_, mb_mb_, mb_md_, mb_mr_, mb_mV_, mb_mf_, mb_mh_, mb_mk_, mb_mR_, xS_xA_, xS_xF_, xS_xM_, xS_xS_, xS_xl_, xS_xn_, xS_xa_, xS_xg_, xS_xe_, xS_xw_, xS_xC_, xS_xc_]); exact r6
  · (try simp only [md_mt_, md_ml_, md_mv_, md_ma_, md_mg_, md_me_, md_mw_, md_mb_, md_md_, md_mr_, md_mV_, md_mf_, md_mh_, md_mk_, md_mR_, xS_xA_, xS_xF_, xS_xM_, xS_xS_, xS_xl_, xS_xn_, xS_xa_, xS_xg_, xS_xe_, xS_xw_, xS_xC_, xS_xc_]); exact r7
  · (try simp only [mr_mt_, mr_ml_, mr_mv_, mr_ma_, mr_mg_, mr_me_, mr_mw_, mr_mb_, mr_md_, mr_mr_, mr_mV_, mr_mf_, mr_mh_, mr_mk_, mr_mR_, xl_xA_, xl_xF_, xl_xM_, xl_xS_, xl_xl_, xl_xn_, xl_xa_, xl_xg_, xl_xe_, xl_xw_, xl_xC_, xl_xc_]); exact r8
  · simp only [me_mt_, me_ml_, me_mv_, me_ma_, me_mg_, me_me_, me_mw_, me_mb_, me_md_, me_mr_, me_mV_, me_mf_, me_mh_, me_mk_, me_mR_, xe_xA_, xe_xF_, xe_xM_, xe_xS_, xe_xl_, xe_xn_, xe_xa_, xe_xg_, xe_xe_, xe_xw_, xe_xC_, xe_xc_]
  · (try simp only [mw_mt_, mw_ml_, mw_mv_, mw_ma_, mw_mg_, mw_me_, mw_mw_, mw_mb_, mw_md_, mw_mr_, mw_mV_, mw_mf_, mw_mh_, mw_mk_, mw_mR_, xw_xA_, xw_xF_, xw_xM_, xw_xS_, xw_xl_, xw_xn_, xw_xa_, xw_xg_, xw_xe_, xw_xw_, xw_xC_, xw_xc_]); exact r10
  · (try simp only [mg_mt_, mg_ml_, mg_mv_, mg_ma_, mg_mg_, mg_me_, mg_mw_, mg_mb_, mg_md_, mg_mr_, mg_mV_, mg_mf_, mg_mh_, mg_mk_, mg_mR_, xg_xA_, xg_xF_, xg_xM_, xg_xS_, xg_xl_, xg_xn_, xg_xa_, xg_xg_, xg_xe_, xg_xw_, xg_xC_, xg_xc_]); exact r11
  · refine Eq.trans (b := ma v) (by (try simp only [ma_mt_, ma_ml_, ma_mv_, ma_ma_, ma_mg_, ma_me_, ma_mw_, ma_mb_, ma_md_, ma_mr_, ma_mV_, ma_mf_, ma_mh_, ma_mk_, ma_mR_, xn_xA_, xn_xF_, xn_xM_, xn_xS_, xn_xl_, xn_xn_, xn_xa_, xn_xg_, xn_xe_, xn_xw_, xn_xC_, xn_xc_, xa_xA_, xa_xF_, xa_xM_, xa_xS_, xa_xl_, xa_xn_, xa_xa_, xa_xg_, xa_xe_, xa_xw_, xa_xC_, xa_xc_])) (r12.trans (arm_c (by (try simp only [ma_mt_, ma_ml_, ma_mv_, ma_ma_, ma_mg_, ma_me_, ma_mw_, ma_mb_, ma_md_, ma_mr_, ma_mV_, ma_mf_, ma_mh_, ma_mk_, ma_mR_, xn_xA_, xn_xF_, xn_xM_, xn_xS_, xn_xl_, xn_xn_, xn_xa_, xn_xg_, xn_xe_, xn_xw_, xn_xC_, xn_xc_, xa_xA_, xa_xF_, xa_xM_, xa_xS_, xa_xl_, xa_xn_, xa_xa_, xa_xg_, xa_xe_, xa_xw_, xa_xC_, xa_xc_])) (by (try simp only [ma_mt_, ma_ml_, ma_mv_, ma_ma_, ma_mg_, ma_me_, ma_mw_, ma_mb_, ma_md_, ma_mr_, ma_mV_, ma_mf_, ma_mh_, ma_mk_, ma_mR_, xn_xA_, xn_xF_, xn_xM_, xn_xS_, xn_xl_, xn_xn_, xn_xa_, xn_xg_, xn_xe_, xn_xw_, xn_xC_, xn_xc_, xa_xA_, xa_xF_, xa_xM_, xa_xS_, xa_xl_, xa_xn_, xa_xa_, xa_xg_, xa_xe_, xa_xw_, xa_xC_, xa_xc_]))))
  · (try simp only [xA_xA_, xA_xF_, xA_xM_, xA_xS_, xA_xl_, xA_xn_, xA_xa_, xA_xg_, xA_xe_, xA_xw_, xA_xC_, xA_xc_]); exact r13
  · (try simp only [xA_xA_, xA_xF_, xA_xM_, xA_xS_, xA_xl_, xA_xn_, xA_xa_, xA_xg_, xA_xe_, xA_xw_, xA_xC_, xA_xc_]); exact r14
  · (try simp only [xF_xA_, xF_xF_, xF_xM_, xF_xS_, xF_xl_, xF_xn_, xF_xa_, xF_xg_, xF_xe_, xF_xw_, xF_xC_, xF_xc_]); exact r15
  · (try simp only [xF_xA_, xF_xF_, xF_xM_, xF_xS_, xF_xl_, xF_xn_, xF_xa_, xF_xg_, xF_xe_, xF_xw_, xF_xC_, xF_xc_]); exact r16
  · unfold LG; simp only [mk_mt_, mk_ml_, mk_mv_, mk_ma_, mk_mg_, mk_me_, mk_mw_, mk_mb_, mk_md_, mk_mr_, mk_mV_, mk_mf_, mk_mh_, mk_mk_, mk_mR_, mR_mt_, mR_ml_, mR_mv_, mR_ma_, mR_mg_, mR_me_, mR_mw_, mR_mb_, mR_md_, mR_mr_, mR_mV_, mR_mf_, mR_mh_, mR_mk_, mR_mR_, xc_xA_, xc_xF_, xc_xM_, xc_xS_, xc_xl_, xc_xn_, xc_xa_, xc_xg_, xc_xe_, xc_xw_, xc_xC_, xc_xc_, xC_xA_, xC_xF_, xC_xM_, xC_xS_, xC_xl_, xC_xn_, xC_xa_, xC_xg_, xC_xe_, xC_xw_, xC_xC_, xC_xc_]; exact r17
theorem S_w0 {n : Nat} {u : XS} {v : MS} (h : RI n u v) : RI n (xw_ u 0) (mw_ v 0) := by
  obtain ⟨⟨r1, r2, r3, r4, r5, r6, r7, r8, r9, r10, r11, r12, r13, r14, r15, r16, r17⟩, hX, hM⟩ := h
  refine ⟨⟨?_, ?_, ?_, ?_, ?_, ?_, ?_, ?_, ?_, ?_, ?_, ?_, ?_, ?_, ?_, ?_, ?_⟩, hX.sw bz0, hM.sw bz0⟩
  · (try simp only [ml_mt_, ml_ml_, ml_mv_, ml_ma_, ml_mg_, ml_me_, ml_mw_, ml_mb_, ml_md_, ml_mr_, ml_mV_, ml_mf_, ml_mh_, ml_mk_, ml_mR_, xA_xA_, xA_xF_, xA_xM_, xA_xS_, xA_xl_, xA_xn_, xA_xa_, xA_xg_, xA_xe_, xA_xw_, xA_xC_, xA_xc_]); exact r1
  · (try simp only [mv_mt_, mv_ml_, mv_mv_, mv_ma_, mv_mg_, mv_me_, mv_mw_, mv_mb_, mv_md_, mv_mr_, mv_mV_, mv_mf_, mv_mh_, mv_mk_, mv_mR_, xA_xA_, xA_xF_, xA_xM_, xA_xS_, xA_xl_, xA_xn_, xA_xa_, xA_xg_, xA_xe_, xA_xw_, xA_xC_, xA_xc_]); exact r2
  · (try simp only [mf_mt_, mf_ml_, mf_mv_, mf_ma_, mf_mg_, mf_me_, mf_mw_, mf_mb_, mf_md_, mf_mr_, mf_mV_, mf_mf_, mf_mh_, mf_mk_, mf_mR_, xF_xA_, xF_xF_, xF_xM_, xF_xS_, xF_xl_, xF_xn_, xF_xa_, xF_xg_, xF_xe_, xF_xw_, xF_xC_, xF_xc_]); exact r3
  · (try simp only [mh_mt_, mh_ml_, mh_mv_, mh_ma_, mh_mg_, mh_me_, mh_mw_, mh_mb_, mh_md_, mh_mr_, mh_mV_, mh_mf_, mh_mh_, mh_mk_, mh_mR_, xF_xA_, xF_xF_, xF_xM_, xF_xS_, xF_xl_, xF_xn_, xF_xa_, xF_xg_, xF_xe_, xF_xw_, xF_xC_, xF_xc_]); exact r4
  · (try simp only [mV_mt_, mV_ml_, mV_mv_, mV_ma_, mV_mg_, mV_me_, mV_mw_, mV_mb_, mV_md_, mV_mr_, mV_mV_, mV_mf_, mV_mh_, mV_mk_, mV_mR_, xM_xA_, xM_xF_, xM_xM_, xM_xS_, xM_xl_, xM_xn_, xM_xa_, xM_xg_, xM_xe_, xM_xw_, xM_xC_, xM_xc_]); exact r5
  · (try simp only [mb_mt_, mb_ml_, mb_mv_, mb_ma_, mb_mg_, mb_me_, mb_mw_, mb_mb_, mb_md_, mb_mr_, mb_mV_, mb_mf_, mb_mh_, mb_mk_, mb_mR_, xS_xA_, xS_xF_, xS_xM_, xS_xS_, xS_xl_, xS_xn_, xS_xa_, xS_xg_, xS_xe_, xS_xw_, xS_xC_, xS_xc_]); exact r6
  · (try simp only [md_mt_, md_ml_, md_mv_, md_ma_, md_mg_, md_me_, md_mw_, md_mb_, md_md_, md_mr_, md_mV_, md_mf_, md_mh_, md_mk_, md_mR_, xS_xA_, xS_xF_, xS_xM_, xS_xS_, xS_xl_, xS_xn_, xS_xa_, xS_xg_, xS_xe_, xS_xw_, xS_xC_, xS_xc_]); exact r7
  · (try simp only [mr_mt_, mr_ml_, mr_mv_, mr_ma_, mr_mg_, mr_me_, mr_mw_, mr_mb_, mr_md_, mr_mr_, mr_mV_, mr_mf_, mr_mh_, mr_mk_, mr_mR_, xl_xA_, xl_xF_, xl_xM_, xl_xS_, xl_xl_, xl_xn_, xl_xa_, xl_xg_, xl_xe_, xl_xw_, xl_xC_, xl_xc_]); exact r8
  · (try simp only [me_mt_, me_ml_, me_mv_, me_ma_, me_mg_, me_me_, me_mw_, me_mb_, me_md_, me_mr_, me_mV_, me_mf_, me_mh_, me_mk_, me_mR_, xe_xA_, xe_xF_, xe_xM_, xe_xS_, xe_xl_, xe_xn_, xe_xa_, xe_xg_, xe_xe_, xe_xw_, xe_xC_, xe_xc_]); exact r9
  · simp only [mw_mt_, mw_ml_, mw_mv_, mw_ma_, mw_mg_, mw_me_, mw_mw_, mw_mb_, mw_md_, mw_mr_, mw_mV_, mw_mf_, mw_mh_, mw_mk_, mw_mR_, xw_xA_, xw_xF_, xw_xM_, xw_xS_, xw_xl_, xw_xn_, xw_xa_, xw_xg_, xw_xe_, xw_xw_, xw_xC_, xw_xc_]
  · (try simp only [mg_mt_, mg_ml_, mg_mv_, mg_ma_, mg_mg_, mg_me_, mg_mw_, mg_mb_, mg_md_, mg_mr_, mg_mV_, mg_mf_, mg_mh_, mg_mk_, mg_mR_, xg_xA_, xg_xF_, xg_xM_, xg_xS_, xg_xl_, xg_xn_, xg_xa_, xg_xg_, xg_xe_, xg_xw_, xg_xC_, xg_xc_]); exact r11
  · refine Eq.trans (b := ma v) (by (try simp only [ma_mt_, ma_ml_, ma_mv_, ma_ma_, ma_mg_, ma_me_, ma_mw_, ma_mb_, ma_md_, ma_mr_, ma_mV_, ma_mf_, ma_mh_, ma_mk_, ma_mR_, xn_xA_, xn_xF_, xn_xM_, xn_xS_, xn_xl_, xn_xn_, xn_xa_, xn_xg_, xn_xe_, xn_xw_, xn_xC_, xn_xc_, xa_xA_, xa_xF_, xa_xM_, xa_xS_, xa_xl_, xa_xn_, xa_xa_, xa_xg_, xa_xe_, xa_xw_, xa_xC_, xa_xc_])) (r12.trans (arm_c (by (try simp only [ma_mt_, ma_ml_, ma_mv_, ma_ma_, ma_mg_, ma_me_, ma_mw_, ma_mb_, ma_md_, ma_mr_, ma_mV_, ma_mf_, ma_mh_, ma_mk_, ma_mR_, xn_xA_, xn_xF_, xn_xM_, xn_xS_, xn_xl_, xn_xn_, xn_xa_, xn_xg_, xn_xe_, xn_xw_, xn_xC_, xn_xc_, xa_xA_, xa_xF_, xa_xM_, xa_xS_, xa_xl_, xa_xn_, xa_xa_, xa_xg_, xa_xe_, xa_xw_, xa_xC_, xa_xc_])) (by (try simp only [ma_mt_, ma_ml_, ma_mv_, ma_ma_, ma_mg_, ma_me_, ma_mw_, ma_mb_, ma_md_, ma_mr_, ma_mV_, ma_mf_, ma_mh_, ma_mk_, ma_mR_, xn_xA_, xn_xF_, xn_xM_, xn_xS_, xn_xl_, xn_xn_, xn_xa_, xn_xg_, xn_xe_, xn_xw_, xn_xC_, xn_xc_, xa_xA_, xa_xF_, xa_xM_, xa_xS_, xa_xl_, xa_xn_, xa_xa_, xa_xg_, xa_xe_, xa_xw_, xa_xC_, xa_xc_]))))
  · (try simp only [xA_xA_, xA_xF_, xA_xM_, xA_xS_, xA_xl_, xA_xn_, xA_xa_, xA_xg_, xA_xe_, xA_xw_, xA_xC_, xA_xc_]); exact r13
  · (try simp only [xA_xA_, xA_xF_, xA_xM_, xA_xS_, xA_xl_, xA_xn_, xA_xa_, xA_xg_, xA_xe_, xA_xw_, xA_xC_, xA_xc_]); exact r14
  · (try simp only [xF_xA_, xF_xF_, xF_xM_, xF_xS_, xF_xl_, xF_xn_, xF_xa_, xF_xg_, xF_xe_, xF_xw_, xF_xC_, xF_xc_]); exact r15
  · (try simp only [xF_xA_, xF_xF_, xF_xM_, xF_xS_, xF_xl_, xF_xn_, xF_xa_, xF_xg_, xF_xe_, xF_xw_, xF_xC_, xF_xc_]); exact r16
  · unfold LG; simp only [mk_mt_, mk_ml_, mk_mv_, mk_ma_, mk_mg_, mk_me_, mk_mw_, mk_mb_, mk_md_, mk_mr_, mk_mV_, mk_mf_, mk_mh_, mk_mk_, mk_mR_, mR_mt_, mR_ml_, mR_mv_, mR_ma_, mR_mg_, mR_me_, mR_mw_, mR_mb_, mR_md_, mR_mr_, mR_mV_, mR_mf_, mR_mh_, mR_mk_, mR_mR_, xc_xA_, xc_xF_, xc_xM_, xc_xS_, xc_xl_, xc_xn_, xc_xa_, xc_xg_, xc_xe_, xc_xw_, xc_xC_, xc_xc_, xC_xA_, xC_xF_, xC_xM_, xC_xS_, xC_xl_, xC_xn_, xC_xa_, xC_xg_, xC_xe_, xC_xw_, xC_xC_, xC_xc_]; exact r17
theorem S_mt {n : Nat} {u : XS} {v : MS} (h : RI n u v) (y : Int32) : RI n (u) (mt_ v y) := by
  obtain ⟨⟨r1, r2, r3, r4, r5, r6, r7, r8, r9, r10, r11, r12, r13, r14, r15, r16, r17⟩, hX, hM⟩ := h
  refine ⟨⟨?_, ?_, ?_, ?_, ?_, ?_, ?_, ?_, ?_, ?_, ?_, ?_, ?_, ?_, ?_, ?_, ?_⟩, hX, hM.st y⟩
  · (try simp only [ml_mt_, ml_ml_, ml_mv_, ml_ma_, ml_mg_, ml_me_, ml_mw_, ml_mb_, ml_md_, ml_mr_, ml_mV_, ml_mf_, ml_mh_, ml_mk_, ml_mR_, xA_xA_, xA_xF_, xA_xM_, xA_xS_, xA_xl_, xA_xn_, xA_xa_, xA_xg_, xA_xe_, xA_xw_, xA_xC_, xA_xc_]); exact r1
  · (try simp only [mv_mt_, mv_ml_, mv_mv_, mv_ma_, mv_mg_, mv_me_, mv_mw_, mv_mb_, mv_md_, mv_mr_, mv_mV_, mv_mf_, mv_mh_, mv_mk_, mv_mR_, xA_xA_, xA_xF_, xA_xM_, xA_xS_, xA_xl_, xA_xn_, xA_xa_, xA_xg_, xA_xe_, xA_xw_, xA_xC_, xA_xc_]); exact r2
  · (try simp only [mf_mt_, mf_ml_, mf_mv_, mf_ma_, mf_mg_, mf_me_, mf_mw_, mf_mb_, mf_md_, mf_mr_, mf_mV_, mf_mf_, mf_mh_, mf_mk_, mf_mR_, xF_xA_, xF_xF_, xF_xM_, xF_xS_, xF_xl_, xF_xn_, xF_xa_, xF_xg_, xF_xe_, xF_xw_, xF_xC_, xF_xc_]); exact r3
  · (try simp only [mh_mt_, mh_ml_, mh_mv_, mh_ma_, mh_mg_, mh_me_, mh_mw_, mh_mb_, mh_md_, mh_mr_, mh_mV_, mh_mf_, mh_mh_, mh_mk_, mh_mR_, xF_xA_, xF_xF_, xF_xM_, xF_xS_, xF_xl_, xF_xn_, xF_xa_, xF_xg_, xF_xe_, xF_xw_, xF_xC_, xF_xc_]); exact r4
  · (try simp only [mV_mt_, mV_ml_, mV_mv_, mV_ma_, mV_mg_, mV_me_, mV_mw_, mV_mb_, mV_md_, mV_mr_, mV_mV_, mV_mf_, mV_mh_, mV_mk_, mV_mR_, xM_xA_, xM_xF_, xM_xM_, xM_xS_, xM_xl_, xM_xn_, xM_xa_, xM_xg_, xM_xe_, xM_xw_, xM_xC_, xM_xc_]); exact r5
  · (try simp only [mb_mt_, mb_ml_, mb_mv_, mb_ma_, mb_mg_, mb_me_, mb_mw_, mb_mb_, mb_md_, mb_mr_, mb_mV_, mb_mf_, mb_mh_, mb_mk_, mb_mR_, xS_xA_, xS_xF_, xS_xM_, xS_xS_, xS_xl_, xS_xn_, xS_xa_, xS_xg_, xS_xe_, xS_xw_, xS_xC_, xS_xc_]); exact r6
  · (try simp only [md_mt_, md_ml_, md_mv_, md_ma_, md_mg_, md_me_, md_mw_, md_mb_, md_md_, md_mr_, md_mV_, md_mf_, md_mh_, md_mk_, md_mR_, xS_xA_, xS_xF_, xS_xM_, xS_xS_, xS_xl_, xS_xn_, xS_xa_, xS_xg_, xS_xe_, xS_xw_, xS_xC_, xS_xc_]); exact r7
  · (try simp only [mr_mt_, mr_ml_, mr_mv_, mr_ma_, mr_mg_, mr_me_, mr_mw_, mr_mb_, mr_md_, mr_mr_, mr_mV_, mr_mf_, mr_mh_, mr_mk_, mr_mR_, xl_xA_, xl_xF_, xl_xM_, xl_xS_, xl_xl_, xl_xn_, xl_xa_, xl_xg_, xl_xe_, xl_xw_, xl_xC_, xl_xc_]); exact r8
  · (try simp only [me_mt_, me_ml_, me_mv_, me_ma_, me_mg_, me_me_, me_mw_, me_mb_, me_md_, me_mr_, me_mV_, me_mf_, me_mh_, me_mk_, me_mR_, xe_xA_, xe_xF_, xe_xM_, xe_xS_, xe_xl_, xe_xn_, xe_xa_, xe_xg_, xe_xe_, xe_xw_, xe_xC_, xe_xc_]); exact r9
  · (try simp only [mw_mt_, mw_ml_, mw_mv_, mw_ma_, mw_mg_, mw_me_, mw_mw_, mw_mb_, mw_md_, mw_mr_, mw_mV_, mw_mf_, mw_mh_, mw_mk_, mw_mR_, xw_xA_, xw_xF_, xw_xM_, xw_xS_, xw_xl_, xw_xn_, xw_xa_, xw_xg_, xw_xe_, xw_xw_, xw_xC_, xw_xc_]); exact r10
  · (try simp only [mg_mt_, mg_ml_, mg_mv_, mg_ma_, mg_mg_, mg_me_, mg_mw_, mg_mb_, mg_md_, mg_mr_, mg_mV_, mg_mf_, mg_mh_, mg_mk_, mg_mR_, xg_xA_, xg_xF_, xg_xM_, xg_xS_, xg_xl_, xg_xn_, xg_xa_, xg_xg_, xg_xe_, xg_xw_, xg_xC_, xg_xc_]); exact r11
  · refine Eq.trans (b := ma v) (by (try simp only [ma_mt_, ma_ml_, ma_mv_, ma_ma_, ma_mg_, ma_me_, ma_mw_, ma_mb_, ma_md_, ma_mr_, ma_mV_, ma_mf_, ma_mh_, ma_mk_, ma_mR_, xn_xA_, xn_xF_, xn_xM_, xn_xS_, xn_xl_, xn_xn_, xn_xa_, xn_xg_, xn_xe_, xn_xw_, xn_xC_, xn_xc_, xa_xA_, xa_xF_, xa_xM_, xa_xS_, xa_xl_, xa_xn_, xa_xa_, xa_xg_, xa_xe_, xa_xw_, xa_xC_, xa_xc_])) (r12.trans (arm_c (by (try simp only [ma_mt_, ma_ml_, ma_mv_, ma_ma_, ma_mg_, ma_me_, ma_mw_, ma_mb_, ma_md_, ma_mr_, ma_mV_, ma_mf_, ma_mh_, ma_mk_, ma_mR_, xn_xA_, xn_xF_, xn_xM_, xn_xS_, xn_xl_, xn_xn_, xn_xa_, xn_xg_, xn_xe_, xn_xw_, xn_xC_, xn_xc_, xa_xA_, xa_xF_, xa_xM_, xa_xS_, xa_xl_, xa_xn_, xa_xa_, xa_xg_, xa_xe_, xa_xw_, xa_xC_, xa_xc_])) (by (try simp only [ma_mt_, ma_ml_, ma_mv_, ma_ma_, ma_mg_, ma_me_, ma_mw_, ma_mb_, ma_md_, ma_mr_, ma_mV_, ma_mf_, ma_mh_, ma_mk_, ma_mR_, xn_xA_, xn_xF_, xn_xM_, xn_xS_, xn_xl_, xn_xn_, xn_xa_, xn_xg_, xn_xe_, xn_xw_, xn_xC_, xn_xc_, xa_xA_, xa_xF_, xa_xM_, xa_xS_, xa_xl_, xa_xn_, xa_xa_, xa_xg_, xa_xe_, xa_xw_, xa_xC_, xa_xc_]))))
  · (try simp only [xA_xA_, xA_xF_, xA_xM_, xA_xS_, xA_xl_, xA_xn_, xA_xa_, xA_xg_, xA_xe_, xA_xw_, xA_xC_, xA_xc_]); exact r13
  · (try simp only [xA_xA_, xA_xF_, xA_xM_, xA_xS_, xA_xl_, xA_xn_, xA_xa_, xA_xg_, xA_xe_, xA_xw_, xA_xC_, xA_xc_]); exact r14
  · (try simp only [xF_xA_, xF_xF_, xF_xM_, xF_xS_, xF_xl_, xF_xn_, xF_xa_, xF_xg_, xF_xe_, xF_xw_, xF_xC_, xF_xc_]); exact r15
  · (try simp only [xF_xA_, xF_xF_, xF_xM_, xF_xS_, xF_xl_, xF_xn_, xF_xa_, xF_xg_, xF_xe_, xF_xw_, xF_xC_, xF_xc_]); exact r16
  · unfold LG; simp only [mk_mt_, mk_ml_, mk_mv_, mk_ma_, mk_mg_, mk_me_, mk_mw_, mk_mb_, mk_md_, mk_mr_, mk_mV_, mk_mf_, mk_mh_, mk_mk_, mk_mR_, mR_mt_, mR_ml_, mR_mv_, mR_ma_, mR_mg_, mR_me_, mR_mw_, mR_mb_, mR_md_, mR_mr_, mR_mV_, mR_mf_, mR_mh_, mR_mk_, mR_mR_, xc_xA_, xc_xF_, xc_xM_, xc_xS_, xc_xl_, xc_xn_, xc_xa_, xc_xg_, xc_xe_, xc_xw_, xc_xC_, xc_xc_, xC_xA_, xC_xF_, xC_xM_, xC_xS_, xC_xl_, xC_xn_, xC_xa_, xC_xg_, xC_xe_, xC_xw_, xC_xC_, xC_xc_]; exact r17
theorem S_ld {n : Nat} {u : XS} {v : MS} (h : RI n u v) {y : Int32} (hy : bz y) : RI n (xl_ u y) (mr_ v y) := by
  obtain ⟨⟨r1, r2, r3, r4, r5, r6, r7, r8, r9, r10, r11, r12, r13, r14, r15, r16, r17⟩, hX, hM⟩ := h
  refine ⟨⟨?_, ?_, ?_, ?_, ?_, ?_, ?_, ?_, ?_, ?_, ?_, ?_, ?_, ?_, ?_, ?_, ?_⟩, hX.sl hy, hM.sr hy⟩
  · (try simp only [ml_mt_, ml_ml_, ml_mv_, ml_ma_, ml_mg_, ml_me_, ml_mw_, ml_mb_, ml_md_, ml_mr_, ml_mV_, ml_mf_, ml_mh_, ml_mk_, ml_mR_, xA_xA_, xA_xF_, xA_xM_, xA_xS_, xA_xl_, xA_xn_, xA_xa_, xA_xg_, xA_xe_, xA_xw_, xA_xC_, xA_xc_]); exact r1
  · (try simp only [mv_mt_, mv_ml_, mv_mv_, mv_ma_, mv_mg_, mv_me_, mv_mw_, mv_mb_, mv_md_, mv_mr_, mv_mV_, mv_mf_, mv_mh_, mv_mk_, mv_mR_, xA_xA_, xA_xF_, xA_xM_, xA_xS_, xA_xl_, xA_xn_, xA_xa_, xA_xg_, xA_xe_, xA_xw_, xA_xC_, xA_xc_]); exact r2
  · (try simp only [mf_mt_, mf_ml_, mf_mv_, mf_ma_, mf_mg_, mf_me_, mf_mw_, mf_mb_, mf_md_, mf_mr_, mf_mV_, mf_mf_, mf_mh_, mf_mk_, mf_mR_, xF_xA_, xF_xF_, xF_xM_, xF_xS_, xF_xl_, xF_xn_, xF_xa_, xF_xg_, xF_xe_, xF_xw_, xF_xC_, xF_xc_]); exact r3
  · (try simp only [mh_mt_, mh_ml_, mh_mv_, mh_ma_, mh_mg_, mh_me_, mh_mw_, mh_mb_, mh_md_, mh_mr_, mh_mV_, mh_mf_, mh_mh_, mh_mk_, mh_mR_, xF_xA_, xF_xF_, xF_xM_, xF_xS_, xF_xl_, xF_xn_, xF_xa_, xF_xg_, xF_xe_, xF_xw_, xF_xC_, xF_xc_]); exact r4
  · (try simp only [mV_mt_, mV_ml_, mV_mv_, mV_ma_, mV_mg_, mV_me_, mV_mw_, mV_mb_, mV_md_, mV_mr_, mV_mV_, mV_mf_, mV_mh_, mV_mk_, mV_mR_, xM_xA_, xM_xF_, xM_xM_, xM_xS_, xM_xl_, xM_xn_, xM_xa_, xM_xg_, xM_xe_, xM_xw_, xM_xC_, xM_xc_]); exact r5
  · (try simp only [mb_mt_, mb_ml_, mb_mv_, mb_ma_, mb_mg_, mb_me_, mb_mw_, mb_mb_, mb_md_, mb_mr_, mb_mV_, mb_mf_, mb_mh_, mb_mk_, mb_mR_, xS_xA_, xS_xF_, xS_xM_, xS_xS_, xS_xl_, xS_xn_, xS_xa_, xS_xg_, xS_xe_, xS_xw_, xS_xC_, xS_xc_]); exact r6
  · (try simp only [md_mt_, md_ml_, md_mv_, md_ma_, md_mg_, md_me_, md_mw_, md_mb_, md_md_, md_mr_, md_mV_, md_mf_, md_mh_, md_mk_, md_mR_, xS_xA_, xS_xF_, xS_xM_, xS_xS_, xS_xl_, xS_xn_, xS_xa_, xS_xg_, xS_xe_, xS_xw_, xS_xC_, xS_xc_]); exact r7
  · simp only [mr_mt_, mr_ml_, mr_mv_, mr_ma_, mr_mg_, mr_me_, mr_mw_, mr_mb_, mr_md_, mr_mr_, mr_mV_, mr_mf_, mr_mh_, mr_mk_, mr_mR_, xl_xA_, xl_xF_, xl_xM_, xl_xS_, xl_xl_, xl_xn_, xl_xa_, xl_xg_, xl_xe_, xl_xw_, xl_xC_, xl_xc_]
  · (try simp only [me_mt_, me_ml_, me_mv_, me_ma_, me_mg_, me_me_, me_mw_, me_mb_, me_md_, me_mr_, me_mV_, me_mf_, me_mh_, me_mk_, me_mR_, xe_xA_, xe_xF_, xe_xM_, xe_xS_, xe_xl_, xe_xn_, xe_xa_, xe_xg_, xe_xe_, xe_xw_, xe_xC_, xe_xc_]); exact r9
  · (try simp only [mw_mt_, mw_ml_, mw_mv_, mw_ma_, mw_mg_, mw_me_, mw_mw_, mw_mb_, mw_md_, mw_mr_, mw_mV_, mw_mf_, mw_mh_, mw_mk_, mw_mR_, xw_xA_, xw_xF_, xw_xM_, xw_xS_, xw_xl_, xw_xn_, xw_xa_, xw_xg_, xw_xe_, xw_xw_, xw_xC_, xw_xc_]); exact r10
  · (try simp only [mg_mt_, mg_ml_, mg_mv_, mg_ma_, mg_mg_, mg_me_, mg_mw_, mg_mb_, mg_md_, mg_mr_, mg_mV_, mg_mf_, mg_mh_, mg_mk_, mg_mR_, xg_xA_, xg_xF_, xg_xM_, xg_xS_, xg_xl_, xg_xn_, xg_xa_, xg_xg_, xg_xe_, xg_xw_, xg_xC_, xg_xc_]); exact r11
  · refine Eq.trans (b := ma v) (by (try simp only [ma_mt_, ma_ml_, ma_mv_, ma_ma_, ma_mg_, ma_me_, ma_mw_, ma_mb_, ma_md_, ma_mr_, ma_mV_, ma_mf_, ma_mh_, ma_mk_, ma_mR_, xn_xA_, xn_xF_, xn_xM_, xn_xS_, xn_xl_, xn_xn_, xn_xa_, xn_xg_, xn_xe_, xn_xw_, xn_xC_, xn_xc_, xa_xA_, xa_xF_, xa_xM_, xa_xS_, xa_xl_, xa_xn_, xa_xa_, xa_xg_, xa_xe_, xa_xw_, xa_xC_, xa_xc_])) (r12.trans (arm_c (by (try simp only [ma_mt_, ma_ml_, ma_mv_, ma_ma_, ma_mg_, ma_me_, ma_mw_, ma_mb_, ma_md_, ma_mr_, ma_mV_, ma_mf_, ma_mh_, ma_mk_, ma_mR_, xn_xA_, xn_xF_, xn_xM_, xn_xS_, xn_xl_, xn_xn_, xn_xa_, xn_xg_, xn_xe_, xn_xw_, xn_xC_, xn_xc_, xa_xA_, xa_xF_, xa_xM_, xa_xS_, xa_xl_, xa_xn_, xa_xa_, xa_xg_, xa_xe_, xa_xw_, xa_xC_, xa_xc_])) (by (try simp only [ma_mt_, ma_ml_, ma_mv_, ma_ma_, ma_mg_, ma_me_, ma_mw_, ma_mb_, ma_md_, ma_mr_, ma_mV_, ma_mf_, ma_mh_, ma_mk_, ma_mR_, xn_xA_, xn_xF_, xn_xM_, xn_xS_, xn_xl_, xn_xn_, xn_xa_, xn_xg_, xn_xe_, xn_xw_, xn_xC_, xn_xc_, xa_xA_, xa_xF_, xa_xM_, xa_xS_, xa_xl_, xa_xn_, xa_xa_, xa_xg_, xa_xe_, xa_xw_, xa_xC_, xa_xc_]))))
  · (try simp only [xA_xA_, xA_xF_, xA_xM_, xA_xS_, xA_xl_, xA_xn_, xA_xa_, xA_xg_, xA_xe_, xA_xw_, xA_xC_, xA_xc_]); exact r13
  · (try simp only [xA_xA_, xA_xF_, xA_xM_, xA_xS_, xA_xl_, xA_xn_, xA_xa_, xA_xg_, xA_xe_, xA_xw_, xA_xC_, xA_xc_]); exact r14
  · (try simp only [xF_xA_, xF_xF_, xF_xM_, xF_xS_, xF_xl_, xF_xn_, xF_xa_, xF_xg_, xF_xe_, xF_xw_, xF_xC_, xF_xc_]); exact r15
  · (try simp only [xF_xA_, xF_xF_, xF_xM_, xF_xS_, xF_xl_, xF_xn_, xF_xa_, xF_xg_, xF_xe_, xF_xw_, xF_xC_, xF_xc_]); exact r16
  · unfold LG; simp only [mk_mt_, mk_ml_, mk_mv_, mk_ma_, mk_mg_, mk_me_, mk_mw_, mk_mb_, mk_md_, mk_mr_, mk_mV_, mk_mf_, mk_mh_, mk_mk_, mk_mR_, mR_mt_, mR_ml_, mR_mv_, mR_ma_, mR_mg_, mR_me_, mR_mw_, mR_mb_, mR_md_, mR_mr_, mR_mV_, mR_mf_, mR_mh_, mR_mk_, mR_mR_, xc_xA_, xc_xF_, xc_xM_, xc_xS_, xc_xl_, xc_xn_, xc_xa_, xc_xg_, xc_xe_, xc_xw_, xc_xC_, xc_xc_, xC_xA_, xC_xF_, xC_xM_, xC_xS_, xC_xl_, xC_xn_, xC_xa_, xC_xg_, xC_xe_, xC_xw_, xC_xC_, xC_xc_]; exact r17
theorem S_ms {n : Nat} {u : XS} {v : MS} (h : RI n u v) (f : Nat → Int32) : RI n (xM_ u f) (mV_ v f) := by
  obtain ⟨⟨r1, r2, r3, r4, r5, r6, r7, r8, r9, r10, r11, r12, r13, r14, r15, r16, r17⟩, hX, hM⟩ := h
  refine ⟨⟨?_, ?_, ?_, ?_, ?_, ?_, ?_, ?_, ?_, ?_, ?_, ?_, ?_, ?_, ?_, ?_, ?_⟩, hX.sM f, hM.sV f⟩
  · (try simp only [ml_mt_, ml_ml_, ml_mv_, ml_ma_, ml_mg_, ml_me_, ml_mw_, ml_mb_, ml_md_, ml_mr_, ml_mV_, ml_mf_, ml_mh_, ml_mk_, ml_mR_, xA_xA_, xA_xF_, xA_xM_, xA_xS_, xA_xl_, xA_xn_, xA_xa_, xA_xg_, xA_xe_, xA_xw_, xA_xC_, xA_xc_]); exact r1
  · (try simp only [mv_mt_, mv_ml_, mv_mv_, mv_ma_, mv_mg_, mv_me_, mv_mw_, mv_mb_, mv_md_, mv_mr_, mv_mV_, mv_mf_, mv_mh_, mv_mk_, mv_mR_, xA_xA_, xA_xF_, xA_xM_, xA_xS_, xA_xl_, xA_xn_, xA_xa_, xA_xg_, xA_xe_, xA_xw_, xA_xC_, xA_xc_]); exact r2
  · (try simp only [mf_mt_, mf_ml_, mf_mv_, mf_ma_, mf_mg_, mf_me_, mf_mw_, mf_mb_, mf_md_, mf_mr_, mf_mV_, mf_mf_, mf_mh_, mf_mk_, mf_mR_, xF_xA_, xF_xF_, xF_xM_, xF_xS_, xF_xl_, xF_xn_, xF_xa_, xF_xg_, xF_xe_, xF_xw_, xF_xC_, xF_xc_]); exact r3
  · (try simp only [mh_mt_, mh_ml_, mh_mv_, mh_ma_, mh_mg_, mh_me_, mh_mw_, mh_mb_, mh_md_, mh_mr_, mh_mV_, mh_mf_, mh_mh_, mh_mk_, mh_mR_, xF_xA_, xF_xF_, xF_xM_, xF_xS_, xF_xl_, xF_xn_, xF_xa_, xF_xg_, xF_xe_, xF_xw_, xF_xC_, xF_xc_]); exact r4
  · simp only [mV_mt_, mV_ml_, mV_mv_, mV_ma_, mV_mg_, mV_me_, mV_mw_, mV_mb_, mV_md_, mV_mr_, mV_mV_, mV_mf_, mV_mh_, mV_mk_, mV_mR_, xM_xA_, xM_xF_, xM_xM_, xM_xS_, xM_xl_, xM_xn_, xM_xa_, xM_xg_, xM_xe_, xM_xw_, xM_xC_, xM_xc_]
  · (try simp only [mb_mt_, mb_ml_, mb_mv_, mb_ma_, mb_mg_, mb_me_, mb_mw_, mb_mb_, mb_md_, mb_mr_, mb_mV_, mb_mf_, mb_mh_, mb_mk_, mb_mR_, xS_xA_, xS_xF_, xS_xM_, xS_xS_, xS_xl_, xS_xn_, xS_xa_, xS_xg_, xS_xe_, xS_xw_, xS_xC_, xS_xc_]); exact r6
  · (try simp only [md_mt_, md_ml_, md_mv_, md_ma_, md_mg_, md_me_, md_mw_, md_mb_, md_md_, md_mr_, md_mV_, md_mf_, md_mh_, md_mk_, md_mR_, xS_xA_, xS_xF_, xS_xM_, xS_xS_, xS_xl_, xS_xn_, xS_xa_, xS_xg_, xS_xe_, xS_xw_, xS_xC_, xS_xc_]); exact r7
  · (try simp only [mr_mt_, mr_ml_, mr_mv_, mr_ma_, mr_mg_, mr_me_, mr_mw_, mr_mb_, mr_md_, mr_mr_, mr_mV_, mr_mf_, mr_mh_, mr_mk_, mr_mR_, xl_xA_, xl_xF_, xl_xM_, xl_xS_, xl_xl_, xl_xn_, xl_xa_, xl_xg_, xl_xe_, xl_xw_, xl_xC_, xl_xc_]); exact r8
  · (try simp only [me_mt_, me_ml_, me_mv_, me_ma_, me_mg_, me_me_, me_mw_, me_mb_, me_md_, me_mr_, me_mV_, me_mf_, me_mh_, me_mk_, me_mR_, xe_xA_, xe_xF_, xe_xM_, xe_xS_, xe_xl_, xe_xn_, xe_xa_, xe_xg_, xe_xe_, xe_xw_, xe_xC_, xe_xc_]); exact r9
  · (try simp only [mw_mt_, mw_ml_, mw_mv_, mw_ma_, mw_mg_, mw_me_, mw_mw_, mw_mb_, mw_md_, mw_mr_, mw_mV_, mw_mf_, mw_mh_, mw_mk_, mw_mR_, xw_xA_, xw_xF_, xw_xM_, xw_xS_, xw_xl_, xw_xn_, xw_xa_, xw_xg_, xw_xe_, xw_xw_, xw_xC_, xw_xc_]); exact r10
  · (try simp only [mg_mt_, mg_ml_, mg_mv_, mg_ma_, mg_mg_, mg_me_, mg_mw_, mg_mb_, mg_md_, mg_mr_, mg_mV_, mg_mf_, mg_mh_, mg_mk_, mg_mR_, xg_xA_, xg_xF_, xg_xM_, xg_xS_, xg_xl_, xg_xn_, xg_xa_, xg_xg_, xg_xe_, xg_xw_, xg_xC_, xg_xc_]); exact r11
  · refine Eq.trans (b := ma v) (by (try simp only [ma_mt_, ma_ml_, ma_mv_, ma_ma_, ma_mg_, ma_me_, ma_mw_, ma_mb_, ma_md_, ma_mr_, ma_mV_, ma_mf_, ma_mh_, ma_mk_, ma_mR_, xn_xA_, xn_xF_, xn_xM_, xn_xS_, xn_xl_, xn_xn_, xn_xa_, xn_xg_, xn_xe_, xn_xw_, xn_xC_, xn_xc_, xa_xA_, xa_xF_, xa_xM_, xa_xS_, xa_xl_, xa_xn_, xa_xa_, xa_xg_, xa_xe_, xa_xw_, xa_xC_, xa_xc_])) (r12.trans (arm_c (by (try simp only [ma_mt_, ma_ml_, ma_mv_, ma_ma_, ma_mg_, ma_me_, ma_mw_, ma_mb_, ma_md_, ma_mr_, ma_mV_, ma_mf_, ma_mh_, ma_mk_, ma_mR_, xn_xA_, xn_xF_, xn_xM_, xn_xS_, xn_xl_, xn_xn_, xn_xa_, xn_xg_, xn_xe_, xn_xw_, xn_xC_, xn_xc_, xa_xA_, xa_xF_, xa_xM_, xa_xS_, xa_xl_, xa_xn_, xa_xa_, xa_xg_, xa_xe_, xa_xw_, xa_xC_, xa_xc_])) (by (try simp only [ma_mt_, ma_ml_, ma_mv_, ma_ma_, ma_mg_, ma_me_, ma_mw_, ma_mb_, ma_md_, ma_mr_, ma_mV_, ma_mf_, ma_mh_, ma_mk_, ma_mR_, xn_xA_, xn_xF_, xn_xM_, xn_xS_, xn_xl_, xn_xn_, xn_xa_, xn_xg_, xn_xe_, xn_xw_, xn_xC_, xn_xc_, xa_xA_, xa_xF_, xa_xM_, xa_xS_, xa_xl_, xa_xn_, xa_xa_, xa_xg_, xa_xe_, xa_xw_, xa_xC_, xa_xc_]))))
  · (try simp only [xA_xA_, xA_xF_, xA_xM_, xA_xS_, xA_xl_, xA_xn_, xA_xa_, xA_xg_, xA_xe_, xA_xw_, xA_xC_, xA_xc_]); exact r13
  · (try simp only [xA_xA_, xA_xF_, xA_xM_, xA_xS_, xA_xl_, xA_xn_, xA_xa_, xA_xg_, xA_xe_, xA_xw_, xA_xC_, xA_xc_]); exact r14
  · (try simp only [xF_xA_, xF_xF_, xF_xM_, xF_xS_, xF_xl_, xF_xn_, xF_xa_, xF_xg_, xF_xe_, xF_xw_, xF_xC_, xF_xc_]); exact r15
  · (try simp only [xF_xA_, xF_xF_, xF_xM_, xF_xS_, xF_xl_, xF_xn_, xF_xa_, xF_xg_, xF_xe_, xF_xw_, xF_xC_, xF_xc_]); exact r16
  · unfold LG; simp only [mk_mt_, mk_ml_, mk_mv_, mk_ma_, mk_mg_, mk_me_, mk_mw_, mk_mb_, mk_md_, mk_mr_, mk_mV_, mk_mf_, mk_mh_, mk_mk_, mk_mR_, mR_mt_, mR_ml_, mR_mv_, mR_ma_, mR_mg_, mR_me_, mR_mw_, mR_mb_, mR_md_, mR_mr_, mR_mV_, mR_mf_, mR_mh_, mR_mk_, mR_mR_, xc_xA_, xc_xF_, xc_xM_, xc_xS_, xc_xl_, xc_xn_, xc_xa_, xc_xg_, xc_xe_, xc_xw_, xc_xC_, xc_xc_, xC_xA_, xC_xF_, xC_xM_, xC_xS_, xC_xl_, xC_xn_, xC_xa_, xC_xg_, xC_xe_, xC_xw_, xC_xC_, xC_xc_]; exact r17
theorem S_nav1 {n : Nat} {u : XS} {v : MS} (h : RI n u v) : RI n (xg_ (xa_ (xn_ u 1) 0) 0) (mg_ (ma_ v 1) 0) := by
  obtain ⟨⟨r1, r2, r3, r4, r5, r6, r7, r8, r9, r10, r11, r12, r13, r14, r15, r16, r17⟩, hX, hM⟩ := h
  refine ⟨⟨?_, ?_, ?_, ?_, ?_, ?_, ?_, ?_, ?_, ?_, ?_, ?_, ?_, ?_, ?_, ?_, ?_⟩, ((hX.sn bz1).sa bz0).sg bz0, (hM.sa 1).sg bz0⟩
  · (try simp only [ml_mt_, ml_ml_, ml_mv_, ml_ma_, ml_mg_, ml_me_, ml_mw_, ml_mb_, ml_md_, ml_mr_, ml_mV_, ml_mf_, ml_mh_, ml_mk_, ml_mR_, xA_xA_, xA_xF_, xA_xM_, xA_xS_, xA_xl_, xA_xn_, xA_xa_, xA_xg_, xA_xe_, xA_xw_, xA_xC_, xA_xc_]); exact r1
  · (try simp only [mv_mt_, mv_ml_, mv_mv_, mv_ma_, mv_mg_, mv_me_, mv_mw_, mv_mb_, mv_md_, mv_mr_, mv_mV_, mv_mf_, mv_mh_, mv_mk_, mv_mR_, xA_xA_, xA_xF_, xA_xM_, xA_xS_, xA_xl_, xA_xn_, xA_xa_, xA_xg_, xA_xe_, xA_xw_, xA_xC_, xA_xc_]); exact r2
  · (try simp only [mf_mt_, mf_ml_, mf_mv_, mf_ma_, mf_mg_, mf_me_, mf_mw_, mf_mb_, mf_md_, mf_mr_, mf_mV_, mf_mf_, mf_mh_, mf_mk_, mf_mR_, xF_xA_, xF_xF_, xF_xM_, xF_xS_, xF_xl_, xF_xn_, xF_xa_, xF_xg_, xF_xe_, xF_xw_, xF_xC_, xF_xc_]); exact r3
  · (try simp only [mh_mt_, mh_ml_, mh_mv_, mh_ma_, mh_mg_, mh_me_, mh_mw_, mh_mb_, mh_md_, mh_mr_, mh_mV_, mh_mf_, mh_mh_, mh_mk_, mh_mR_, xF_xA_, xF_xF_, xF_xM_, xF_xS_, xF_xl_, xF_xn_, xF_xa_, xF_xg_, xF_xe_, xF_xw_, xF_xC_, xF_xc_]); exact r4
  · (try simp only [mV_mt_, mV_ml_, mV_mv_, mV_ma_, mV_mg_, mV_me_, mV_mw_, mV_mb_, mV_md_, mV_mr_, mV_mV_, mV_mf_, mV_mh_, mV_mk_, mV_mR_, xM_xA_, xM_xF_, xM_xM_, xM_xS_, xM_xl_, xM_xn_, xM_xa_, xM_xg_, xM_xe_, xM_xw_, xM_xC_, xM_xc_]); exact r5
  · (try simp only [mb_mt_, mb_ml_, mb_mv_, mb_ma_, mb_mg_, mb_me_, mb_mw_, mb_mb_, mb_md_, mb_mr_, mb_mV_, mb_mf_, mb_mh_, mb_mk_, mb_mR_, xS_xA_, xS_xF_, xS_xM_, xS_xS_, xS_xl_, xS_xn_, xS_xa_, xS_xg_, xS_xe_, xS_xw_, xS_xC_, xS_xc_]); exact r6
  · (try simp only [md_mt_, md_ml_, md_mv_, md_ma_, md_mg_, md_me_, md_mw_, md_mb_, md_md_, md_mr_, md_mV_, md_mf_, md_mh_, md_mk_, md_mR_, xS_xA_, xS_xF_, xS_xM_, xS_xS_, xS_xl_, xS_xn_, xS_xa_, xS_xg_, xS_xe_, xS_xw_, xS_xC_, xS_xc_]); exact r7
  · (try simp only [mr_mt_, mr_ml_, mr_mv_, mr_ma_, mr_mg_, mr_me_, mr_mw_, mr_mb_, mr_md_, mr_mr_, mr_mV_, mr_mf_, mr_mh_, mr_mk_, mr_mR_, xl_xA_, xl_xF_, xl_xM_, xl_xS_, xl_xl_, xl_xn_, xl_xa_, xl_xg_, xl_xe_, xl_xw_, xl_xC_, xl_xc_]); exact r8
  · (try simp only [me_mt_, me_ml_, me_mv_, me_ma_, me_mg_, me_me_, me_mw_, me_mb_, me_md_, me_mr_, me_mV_, me_mf_, me_mh_, me_mk_, me_mR_, xe_xA_, xe_xF_, xe_xM_, xe_xS_, xe_xl_, xe_xn_, xe_xa_, xe_xg_, xe_xe_, xe_xw_, xe_xC_, xe_xc_]); exact r9
  · (try simp only [mw_mt_, mw_ml_, mw_mv_, mw_ma_, mw_mg_, mw_me_, mw_mw_, mw_mb_, mw_md_, mw_mr_, mw_mV_, mw_mf_, mw_mh_, mw_mk_, mw_mR_, xw_xA_, xw_xF_, xw_xM_, xw_xS_, xw_xl_, xw_xn_, xw_xa_, xw_xg_, xw_xe_, xw_xw_, xw_xC_, xw_xc_]); exact r10
  · simp only [mg_mt_, mg_ml_, mg_mv_, mg_ma_, mg_mg_, mg_me_, mg_mw_, mg_mb_, mg_md_, mg_mr_, mg_mV_, mg_mf_, mg_mh_, mg_mk_, mg_mR_, xg_xA_, xg_xF_, xg_xM_, xg_xS_, xg_xl_, xg_xn_, xg_xa_, xg_xg_, xg_xe_, xg_xw_, xg_xC_, xg_xc_]
  · refine Eq.trans (b := 1) (by simp only [ma_mt_, ma_ml_, ma_mv_, ma_ma_, ma_mg_, ma_me_, ma_mw_, ma_mb_, ma_md_, ma_mr_, ma_mV_, ma_mf_, ma_mh_, ma_mk_, ma_mR_]) (Eq.symm ((arm_v (a := 1) (b := 0) (by simp only [xn_xA_, xn_xF_, xn_xM_, xn_xS_, xn_xl_, xn_xn_, xn_xa_, xn_xg_, xn_xe_, xn_xw_, xn_xC_, xn_xc_]) (by simp only [xa_xA_, xa_xF_, xa_xM_, xa_xS_, xa_xl_, xa_xn_, xa_xa_, xa_xg_, xa_xe_, xa_xw_, xa_xC_, xa_xc_])).trans (by decide)))
  · (try simp only [xA_xA_, xA_xF_, xA_xM_, xA_xS_, xA_xl_, xA_xn_, xA_xa_, xA_xg_, xA_xe_, xA_xw_, xA_xC_, xA_xc_]); exact r13
  · (try simp only [xA_xA_, xA_xF_, xA_xM_, xA_xS_, xA_xl_, xA_xn_, xA_xa_, xA_xg_, xA_xe_, xA_xw_, xA_xC_, xA_xc_]); exact r14
  · (try simp only [xF_xA_, xF_xF_, xF_xM_, xF_xS_, xF_xl_, xF_xn_, xF_xa_, xF_xg_, xF_xe_, xF_xw_, xF_xC_, xF_xc_]); exact r15
  · (try simp only [xF_xA_, xF_xF_, xF_xM_, xF_xS_, xF_xl_, xF_xn_, xF_xa_, xF_xg_, xF_xe_, xF_xw_, xF_xC_, xF_xc_]); exact r16
  · unfold LG; simp only [mk_mt_, mk_ml_, mk_mv_, mk_ma_, mk_mg_, mk_me_, mk_mw_, mk_mb_, mk_md_, mk_mr_, mk_mV_, mk_mf_, mk_mh_, mk_mk_, mk_mR_, mR_mt_, mR_ml_, mR_mv_, mR_ma_, mR_mg_, mR_me_, mR_mw_, mR_mb_, mR_md_, mR_mr_, mR_mV_, mR_mf_, mR_mh_, mR_mk_, mR_mR_, xc_xA_, xc_xF_, xc_xM_, xc_xS_, xc_xl_, xc_xn_, xc_xa_, xc_xg_, xc_xe_, xc_xw_, xc_xC_, xc_xc_, xC_xA_, xC_xF_, xC_xM_, xC_xS_, xC_xl_, xC_xn_, xC_xa_, xC_xg_, xC_xe_, xC_xw_, xC_xC_, xC_xc_]; exact r17
theorem S_nav0 {n : Nat} {u : XS} {v : MS} (h : RI n u v) (ha : xa u = 0) : RI n (xn_ u 0) (ma_ v 0) := by
  obtain ⟨⟨r1, r2, r3, r4, r5, r6, r7, r8, r9, r10, r11, r12, r13, r14, r15, r16, r17⟩, hX, hM⟩ := h
  refine ⟨⟨?_, ?_, ?_, ?_, ?_, ?_, ?_, ?_, ?_, ?_, ?_, ?_, ?_, ?_, ?_, ?_, ?_⟩, hX.sn bz0, hM.sa 0⟩
  · (try simp only [ml_mt_, ml_ml_, ml_mv_, ml_ma_, ml_mg_, ml_me_, ml_mw_, ml_mb_, ml_md_, ml_mr_, ml_mV_, ml_mf_, ml_mh_, ml_mk_, ml_mR_, xA_xA_, xA_xF_, xA_xM_, xA_xS_, xA_xl_, xA_xn_, xA_xa_, xA_xg_, xA_xe_, xA_xw_, xA_xC_, xA_xc_]); exact r1
  · (try simp only [mv_mt_, mv_ml_, mv_mv_, mv_ma_, mv_mg_, mv_me_, mv_mw_, mv_mb_, mv_md_, mv_mr_, mv_mV_, mv_mf_, mv_mh_, mv_mk_, mv_mR_, xA_xA_, xA_xF_, xA_xM_, xA_xS_, xA_xl_, xA_xn_, xA_xa_, xA_xg_, xA_xe_, xA_xw_, xA_xC_, xA_xc_]); exact r2
  · (try simp only [mf_mt_, mf_ml_, mf_mv_, mf_ma_, mf_mg_, mf_me_, mf_mw_, mf_mb_, mf_md_, mf_mr_, mf_mV_, mf_mf_, mf_mh_, mf_mk_, mf_mR_, xF_xA_, xF_xF_, xF_xM_, xF_xS_, xF_xl_, xF_xn_, xF_xa_, xF_xg_, xF_xe_, xF_xw_, xF_xC_, xF_xc_]); exact r3
  · (try simp only [mh_mt_, mh_ml_, mh_mv_, mh_ma_, mh_mg_, mh_me_, mh_mw_, mh_mb_, mh_md_, mh_mr_, mh_mV_, mh_mf_, mh_mh_, mh_mk_, mh_mR_, xF_xA_, xF_xF_, xF_xM_, xF_xS_, xF_xl_, xF_xn_, xF_xa_, xF_xg_, xF_xe_, xF_xw_, xF_xC_, xF_xc_]); exact r4
  · (try simp only [mV_mt_, mV_ml_, mV_mv_, mV_ma_, mV_mg_, mV_me_, mV_mw_, mV_mb_, mV_md_, mV_mr_, mV_mV_, mV_mf_, mV_mh_, mV_mk_, mV_mR_, xM_xA_, xM_xF_, xM_xM_, xM_xS_, xM_xl_, xM_xn_, xM_xa_, xM_xg_, xM_xe_, xM_xw_, xM_xC_, xM_xc_]); exact r5
  · (try simp only [mb_mt_, mb_ml_, mb_mv_, mb_ma_, mb_mg_, mb_me_, mb_mw_, mb_mb_, mb_md_, mb_mr_, mb_mV_, mb_mf_, mb_mh_, mb_mk_, mb_mR_, xS_xA_, xS_xF_, xS_xM_, xS_xS_, xS_xl_, xS_xn_, xS_xa_, xS_xg_, xS_xe_, xS_xw_, xS_xC_, xS_xc_]); exact r6
  · (try simp only [md_mt_, md_ml_, md_mv_, md_ma_, md_mg_, md_me_, md_mw_, md_mb_, md_md_, md_mr_, md_mV_, md_mf_, md_mh_, md_mk_, md_mR_, xS_xA_, xS_xF_, xS_xM_, xS_xS_, xS_xl_, xS_xn_, xS_xa_, xS_xg_, xS_xe_, xS_xw_, xS_xC_, xS_xc_]); exact r7
  · (try simp only [mr_mt_, mr_ml_, mr_mv_, mr_ma_, mr_mg_, mr_me_, mr_mw_, mr_mb_, mr_md_, mr_mr_, mr_mV_, mr_mf_, mr_mh_, mr_mk_, mr_mR_, xl_xA_, xl_xF_, xl_xM_, xl_xS_, xl_xl_, xl_xn_, xl_xa_, xl_xg_, xl_xe_, xl_xw_, xl_xC_, xl_xc_]); exact r8
  · (try simp only [me_mt_, me_ml_, me_mv_, me_ma_, me_mg_, me_me_, me_mw_, me_mb_, me_md_, me_mr_, me_mV_, me_mf_, me_mh_, me_mk_, me_mR_, xe_xA_, xe_xF_, xe_xM_, xe_xS_, xe_xl_, xe_xn_, xe_xa_, xe_xg_, xe_xe_, xe_xw_, xe_xC_, xe_xc_]); exact r9
  · (try simp only [mw_mt_, mw_ml_, mw_mv_, mw_ma_, mw_mg_, mw_me_, mw_mw_, mw_mb_, mw_md_, mw_mr_, mw_mV_, mw_mf_, mw_mh_, mw_mk_, mw_mR_, xw_xA_, xw_xF_, xw_xM_, xw_xS_, xw_xl_, xw_xn_, xw_xa_, xw_xg_, xw_xe_, xw_xw_, xw_xC_, xw_xc_]); exact r10
  · (try simp only [mg_mt_, mg_ml_, mg_mv_, mg_ma_, mg_mg_, mg_me_, mg_mw_, mg_mb_, mg_md_, mg_mr_, mg_mV_, mg_mf_, mg_mh_, mg_mk_, mg_mR_, xg_xA_, xg_xF_, xg_xM_, xg_xS_, xg_xl_, xg_xn_, xg_xa_, xg_xg_, xg_xe_, xg_xw_, xg_xC_, xg_xc_]); exact r11
  · refine Eq.trans (b := 0) (by simp only [ma_mt_, ma_ml_, ma_mv_, ma_ma_, ma_mg_, ma_me_, ma_mw_, ma_mb_, ma_md_, ma_mr_, ma_mV_, ma_mf_, ma_mh_, ma_mk_, ma_mR_]) (Eq.symm ((arm_v (a := 0) (b := 0) (by simp only [xn_xA_, xn_xF_, xn_xM_, xn_xS_, xn_xl_, xn_xn_, xn_xa_, xn_xg_, xn_xe_, xn_xw_, xn_xC_, xn_xc_]) (by simp only [xa_xA_, xa_xF_, xa_xM_, xa_xS_, xa_xl_, xa_xn_, xa_xa_, xa_xg_, xa_xe_, xa_xw_, xa_xC_, xa_xc_]; exact ha)).trans (by decide)))
  · (try simp only [xA_xA_, xA_xF_, xA_xM_, xA_xS_, xA_xl_, xA_xn_, xA_xa_, xA_xg_, xA_xe_, xA_xw_, xA_xC_, xA_xc_]); exact r13
  · (try simp only [xA_xA_, xA_xF_, xA_xM_, xA_xS_, xA_xl_, xA_xn_, xA_xa_, xA_xg_, xA_xe_, xA_xw_, xA_xC_, xA_xc_]); exact r14
  · (try simp only [xF_xA_, xF_xF_, xF_xM_, xF_xS_, xF_xl_, xF_xn_, xF_xa_, xF_xg_, xF_xe_, xF_xw_, xF_xC_, xF_xc_]); exact r15
  · (try simp only [xF_xA_, xF_xF_, xF_xM_, xF_xS_, xF_xl_, xF_xn_, xF_xa_, xF_xg_, xF_xe_, xF_xw_, xF_xC_, xF_xc_]); exact r16
  · unfold LG; simp only [mk_mt_, mk_ml_, mk_mv_, mk_ma_, mk_mg_, mk_me_, mk_mw_, mk_mb_, mk_md_, mk_mr_, mk_mV_, mk_mf_, mk_mh_, mk_mk_, mk_mR_, mR_mt_, mR_ml_, mR_mv_, mR_ma_, mR_mg_, mR_me_, mR_mw_, mR_mb_, mR_md_, mR_mr_, mR_mV_, mR_mf_, mR_mh_, mR_mk_, mR_mR_, xc_xA_, xc_xF_, xc_xM_, xc_xS_, xc_xl_, xc_xn_, xc_xa_, xc_xg_, xc_xe_, xc_xw_, xc_xC_, xc_xc_, xC_xA_, xC_xF_, xC_xM_, xC_xS_, xC_xl_, xC_xn_, xC_xa_, xC_xg_, xC_xe_, xC_xw_, xC_xC_, xC_xc_]; exact r17
theorem S_app1 {n : Nat} {u : XS} {v : MS} (h : RI n u v) : RI n (xn_ (xg_ (xa_ u 1) 1) 0) (mg_ (ma_ v 2) 1) := by
  obtain ⟨⟨r1, r2, r3, r4, r5, r6, r7, r8, r9, r10, r11, r12, r13, r14, r15, r16, r17⟩, hX, hM⟩ := h
  refine ⟨⟨?_, ?_, ?_, ?_, ?_, ?_, ?_, ?_, ?_, ?_, ?_, ?_, ?_, ?_, ?_, ?_, ?_⟩, ((hX.sa bz1).sg bz1).sn bz0, (hM.sa 2).sg bz1⟩
  · (try simp only [ml_mt_, ml_ml_, ml_mv_, ml_ma_, ml_mg_, ml_me_, ml_mw_, ml_mb_, ml_md_, ml_mr_, ml_mV_, ml_mf_, ml_mh_, ml_mk_, ml_mR_, xA_xA_, xA_xF_, xA_xM_, xA_xS_, xA_xl_, xA_xn_, xA_xa_, xA_xg_, xA_xe_, xA_xw_, xA_xC_, xA_xc_]); exact r1
  · (try simp only [mv_mt_, mv_ml_, mv_mv_, mv_ma_, mv_mg_, mv_me_, mv_mw_, mv_mb_, mv_md_, mv_mr_, mv_mV_, mv_mf_, mv_mh_, mv_mk_, mv_mR_, xA_xA_, xA_xF_, xA_xM_, xA_xS_, xA_xl_, xA_xn_, xA_xa_, xA_xg_, xA_xe_, xA_xw_, xA_xC_, xA_xc_]); exact r2
  · (try simp only [mf_mt_, mf_ml_, mf_mv_, mf_ma_, mf_mg_, mf_me_, mf_mw_, mf_mb_, mf_md_, mf_mr_, mf_mV_, mf_mf_, mf_mh_, mf_mk_, mf_mR_, xF_xA_, xF_xF_, xF_xM_, xF_xS_, xF_xl_, xF_xn_, xF_xa_, xF_xg_, xF_xe_, xF_xw_, xF_xC_, xF_xc_]); exact r3
  · (try simp only [mh_mt_, mh_ml_, mh_mv_, mh_ma_, mh_mg_, mh_me_, mh_mw_, mh_mb_, mh_md_, mh_mr_, mh_mV_, mh_mf_, mh_mh_, mh_mk_, mh_mR_, xF_xA_, xF_xF_, xF_xM_, xF_xS_, xF_xl_, xF_xn_, xF_xa_, xF_xg_, xF_xe_, xF_xw_, xF_xC_, xF_xc_]); exact r4
  · (try simp only [mV_mt_, mV_ml_, mV_mv_, mV_ma_, mV_mg_, mV_me_, mV_mw_, mV_mb_, mV_md_, mV_mr_, mV_mV_, mV_mf_, mV_mh_, mV_mk_, mV_mR_, xM_xA_, xM_xF_, xM_xM_, xM_xS_, xM_xl_, xM_xn_, xM_xa_, xM_xg_, xM_xe_, xM_xw_, xM_xC_, xM_xc_]); exact r5
  · (try simp only [mb_mt_, mb_ml_, mb_mv_, mb_ma_, mb_mg_, mb_me_, mb_mw_, mb_mb_, mb_md_, mb_mr_, mb_mV_, mb_mf_, mb_mh_, mb_mk_, mb_mR_, xS_xA_, xS_xF_, xS_xM_, xS_xS_, xS_xl_, xS_xn_, xS_xa_, xS_xg_, xS_xe_, xS_xw_, xS_xC_, xS_xc_]); exact r6
  · (try simp only [md_mt_, md_ml_, md_mv_, md_ma_, md_mg_, md_me_, md_mw_, md_mb_, md_md_, md_mr_, md_mV_, md_mf_, md_mh_, md_mk_, md_mR_, xS_xA_, xS_xF_, xS_xM_, xS_xS_, xS_xl_, xS_xn_, xS_xa_, xS_xg_, xS_xe_, xS_xw_, xS_xC_, xS_xc_]); exact r7
  · (try simp only [mr_mt_, mr_ml_, mr_mv_, mr_ma_, mr_mg_, mr_me_, mr_mw_, mr_mb_, mr_md_, mr_mr_, mr_mV_, mr_mf_, mr_mh_, mr_mk_, mr_mR_, xl_xA_, xl_xF_, xl_xM_, xl_xS_, xl_xl_, xl_xn_, xl_xa_, xl_xg_, xl_xe_, xl_xw_, xl_xC_, xl_xc_]); exact r8
  · (try simp only [me_mt_, me_ml_, me_mv_, me_ma_, me_mg_, me_me_, me_mw_, me_mb_, me_md_, me_mr_, me_mV_, me_mf_, me_mh_, me_mk_, me_mR_, xe_xA_, xe_xF_, xe_xM_, xe_xS_, xe_xl_, xe_xn_, xe_xa_, xe_xg_, xe_xe_, xe_xw_, xe_xC_, xe_xc_]); exact r9
  · (try simp only [mw_mt_, mw_ml_, mw_mv_, mw_ma_, mw_mg_, mw_me_, mw_mw_, mw_mb_, mw_md_, mw_mr_, mw_mV_, mw_mf_, mw_mh_, mw_mk_, mw_mR_, xw_xA_, xw_xF_, xw_xM_, xw_xS_, xw_xl_, xw_xn_, xw_xa_, xw_xg_, xw_xe_, xw_xw_, xw_xC_, xw_xc_]); exact r10
  · simp only [mg_mt_, mg_ml_, mg_mv_, mg_ma_, mg_mg_, mg_me_, mg_mw_, mg_mb_, mg_md_, mg_mr_, mg_mV_, mg_mf_, mg_mh_, mg_mk_, mg_mR_, xg_xA_, xg_xF_, xg_xM_, xg_xS_, xg_xl_, xg_xn_, xg_xa_, xg_xg_, xg_xe_, xg_xw_, xg_xC_, xg_xc_]
  · refine Eq.trans (b := 2) (by simp only [ma_mt_, ma_ml_, ma_mv_, ma_ma_, ma_mg_, ma_me_, ma_mw_, ma_mb_, ma_md_, ma_mr_, ma_mV_, ma_mf_, ma_mh_, ma_mk_, ma_mR_]) (Eq.symm ((arm_v (a := 0) (b := 1) (by simp only [xn_xA_, xn_xF_, xn_xM_, xn_xS_, xn_xl_, xn_xn_, xn_xa_, xn_xg_, xn_xe_, xn_xw_, xn_xC_, xn_xc_]) (by simp only [xa_xA_, xa_xF_, xa_xM_, xa_xS_, xa_xl_, xa_xn_, xa_xa_, xa_xg_, xa_xe_, xa_xw_, xa_xC_, xa_xc_])).trans (by decide)))
  · (try simp only [xA_xA_, xA_xF_, xA_xM_, xA_xS_, xA_xl_, xA_xn_, xA_xa_, xA_xg_, xA_xe_, xA_xw_, xA_xC_, xA_xc_]); exact r13
  · (try simp only [xA_xA_, xA_xF_, xA_xM_, xA_xS_, xA_xl_, xA_xn_, xA_xa_, xA_xg_, xA_xe_, xA_xw_, xA_xC_, xA_xc_]); exact r14
  · (try simp only [xF_xA_, xF_xF_, xF_xM_, xF_xS_, xF_xl_, xF_xn_, xF_xa_, xF_xg_, xF_xe_, xF_xw_, xF_xC_, xF_xc_]); exact r15
  · (try simp only [xF_xA_, xF_xF_, xF_xM_, xF_xS_, xF_xl_, xF_xn_, xF_xa_, xF_xg_, xF_xe_, xF_xw_, xF_xC_, xF_xc_]); exact r16
  · unfold LG; simp only [mk_mt_, mk_ml_, mk_mv_, mk_ma_, mk_mg_, mk_me_, mk_mw_, mk_mb_, mk_md_, mk_mr_, mk_mV_, mk_mf_, mk_mh_, mk_mk_, mk_mR_, mR_mt_, mR_ml_, mR_mv_, mR_ma_, mR_mg_, mR_me_, mR_mw_, mR_mb_, mR_md_, mR_mr_, mR_mV_, mR_mf_, mR_mh_, mR_mk_, mR_mR_, xc_xA_, xc_xF_, xc_xM_, xc_xS_, xc_xl_, xc_xn_, xc_xa_, xc_xg_, xc_xe_, xc_xw_, xc_xC_, xc_xc_, xC_xA_, xC_xF_, xC_xM_, xC_xS_, xC_xl_, xC_xn_, xC_xa_, xC_xg_, xC_xe_, xC_xw_, xC_xC_, xC_xc_]; exact r17
theorem S_app0 {n : Nat} {u : XS} {v : MS} (h : RI n u v) (hnn : xn u = 0) : RI n (xg_ (xa_ u 0) 0) (mg_ (ma_ v 0) 0) := by
  obtain ⟨⟨r1, r2, r3, r4, r5, r6, r7, r8, r9, r10, r11, r12, r13, r14, r15, r16, r17⟩, hX, hM⟩ := h
  refine ⟨⟨?_, ?_, ?_, ?_, ?_, ?_, ?_, ?_, ?_, ?_, ?_, ?_, ?_, ?_, ?_, ?_, ?_⟩, (hX.sa bz0).sg bz0, (hM.sa 0).sg bz0⟩
  · (try simp only [ml_mt_, ml_ml_, ml_mv_, ml_ma_, ml_mg_, ml_me_, ml_mw_, ml_mb_, ml_md_, ml_mr_, ml_mV_, ml_mf_, ml_mh_, ml_mk_, ml_mR_, xA_xA_, xA_xF_, xA_xM_, xA_xS_, xA_xl_, xA_xn_, xA_xa_, xA_xg_, xA_xe_, xA_xw_, xA_xC_, xA_xc_]); exact r1
  · (try simp only [mv_mt_, mv_ml_, mv_mv_, mv_ma_, mv_mg_, mv_me_, mv_mw_, mv_mb_, mv_md_, mv_mr_, mv_mV_, mv_mf_, mv_mh_, mv_mk_, mv_mR_, xA_xA_, xA_xF_, xA_xM_, xA_xS_, xA_xl_, xA_xn_, xA_xa_, xA_xg_, xA_xe_, xA_xw_, xA_xC_, xA_xc_]); exact r2
  · (try simp only [mf_mt_, mf_ml_, mf_mv_, mf_ma_, mf_mg_, mf_me_, mf_mw_, mf_mb_, mf_md_, mf_mr_, mf_mV_, mf_mf_, mf_mh_, mf_mk_, mf_mR_, xF_xA_, xF_xF_, xF_xM_, xF_xS_, xF_xl_, xF_xn_, xF_xa_, xF_xg_, xF_xe_, xF_xw_, xF_xC_, xF_xc_]); exact r3
  · (try simp only [mh_mt_, mh_ml_, mh_mv_, mh_ma_, mh_mg_, mh_me_, mh_mw_, mh_mb_, mh_md_, mh_mr_, mh_mV_, mh_mf_, mh_mh_, mh_mk_, mh_mR_, xF_xA_, xF_xF_, xF_xM_, xF_xS_, xF_xl_, xF_xn_, xF_xa_, xF_xg_, xF_xe_, xF_xw_, xF_xC_, xF_xc_]); exact r4
  · (try simp only [mV_mt_, mV_ml_, mV_mv_, mV_ma_, mV_mg_, mV_me_, mV_mw_, mV_mb_, mV_md_, mV_mr_, mV_mV_, mV_mf_, mV_mh_, mV_mk_, mV_mR_, xM_xA_, xM_xF_, xM_xM_, xM_xS_, xM_xl_, xM_xn_, xM_xa_, xM_xg_, xM_xe_, xM_xw_, xM_xC_, xM_xc_]); exact r5
  · (try simp only [mb_mt_, mb_ml_, mb_mv_, mb_ma_, mb_mg_, mb_me_, mb_mw_, mb_mb_, mb_md_, mb_mr_, mb_mV_, mb_mf_, mb_mh_, mb_mk_, mb_mR_, xS_xA_, xS_xF_, xS_xM_, xS_xS_, xS_xl_, xS_xn_, xS_xa_, xS_xg_, xS_xe_, xS_xw_, xS_xC_, xS_xc_]); exact r6
  · (try simp only [md_mt_, md_ml_, md_mv_, md_ma_, md_mg_, md_me_, md_mw_, md_mb_, md_md_, md_mr_, md_mV_, md_mf_, md_mh_, md_mk_, md_mR_, xS_xA_, xS_xF_, xS_xM_, xS_xS_, xS_xl_, xS_xn_, xS_xa_, xS_xg_, xS_xe_, xS_xw_, xS_xC_, xS_xc_]); exact r7
  · (try simp only [mr_mt_, mr_ml_, mr_mv_, mr_ma_, mr_mg_, mr_me_, mr_mw_, mr_mb_, mr_md_, mr_mr_, mr_mV_, mr_mf_, mr_mh_, mr_mk_, mr_mR_, xl_xA_, xl_xF_, xl_xM_, xl_xS_, xl_xl_, xl_xn_, xl_xa_, xl_xg_, xl_xe_, xl_xw_, xl_xC_, xl_xc_]); exact r8
  · (try simp only [me_mt_, me_ml_, me_mv_, me_ma_, me_mg_, me_me_, me_mw_, me_mb_, me_md_, me_mr_, me_mV_, me_mf_, me_mh_, me_mk_, me_mR_, xe_xA_, xe_xF_, xe_xM_, xe_xS_, xe_xl_, xe_xn_, xe_xa_, xe_xg_, xe_xe_, xe_xw_, xe_xC_, xe_xc_]); exact r9
  · (try simp only [mw_mt_, mw_ml_, mw_mv_, mw_ma_, mw_mg_, mw_me_, mw_mw_, mw_mb_, mw_md_, mw_mr_, mw_mV_, mw_mf_, mw_mh_, mw_mk_, mw_mR_, xw_xA_, xw_xF_, xw_xM_, xw_xS_, xw_xl_, xw_xn_, xw_xa_, xw_xg_, xw_xe_, xw_xw_, xw_xC_, xw_xc_]); exact r10
  · simp only [mg_mt_, mg_ml_, mg_mv_, mg_ma_, mg_mg_, mg_me_, mg_mw_, mg_mb_, mg_md_, mg_mr_, mg_mV_, mg_mf_, mg_mh_, mg_mk_, mg_mR_, xg_xA_, xg_xF_, xg_xM_, xg_xS_, xg_xl_, xg_xn_, xg_xa_, xg_xg_, xg_xe_, xg_xw_, xg_xC_, xg_xc_]
  · refine Eq.trans (b := 0) (by simp only [ma_mt_, ma_ml_, ma_mv_, ma_ma_, ma_mg_, ma_me_, ma_mw_, ma_mb_, ma_md_, ma_mr_, ma_mV_, ma_mf_, ma_mh_, ma_mk_, ma_mR_]) (Eq.symm ((arm_v (a := 0) (b := 0) (by simp only [xn_xA_, xn_xF_, xn_xM_, xn_xS_, xn_xl_, xn_xn_, xn_xa_, xn_xg_, xn_xe_, xn_xw_, xn_xC_, xn_xc_]; exact hnn) (by simp only [xa_xA_, xa_xF_, xa_xM_, xa_xS_, xa_xl_, xa_xn_, xa_xa_, xa_xg_, xa_xe_, xa_xw_, xa_xC_, xa_xc_])).trans (by decide)))
  · (try simp only [xA_xA_, xA_xF_, xA_xM_, xA_xS_, xA_xl_, xA_xn_, xA_xa_, xA_xg_, xA_xe_, xA_xw_, xA_xC_, xA_xc_]); exact r13
  · (try simp only [xA_xA_, xA_xF_, xA_xM_, xA_xS_, xA_xl_, xA_xn_, xA_xa_, xA_xg_, xA_xe_, xA_xw_, xA_xC_, xA_xc_]); exact r14
  · (try simp only [xF_xA_, xF_xF_, xF_xM_, xF_xS_, xF_xl_, xF_xn_, xF_xa_, xF_xg_, xF_xe_, xF_xw_, xF_xC_, xF_xc_]); exact r15
  · (try simp only [xF_xA_, xF_xF_, xF_xM_, xF_xS_, xF_xl_, xF_xn_, xF_xa_, xF_xg_, xF_xe_, xF_xw_, xF_xC_, xF_xc_]); exact r16
  · unfold LG; simp only [mk_mt_, mk_ml_, mk_mv_, mk_ma_, mk_mg_, mk_me_, mk_mw_, mk_mb_, mk_md_, mk_mr_, mk_mV_, mk_mf_, mk_mh_, mk_mk_, mk_mR_, mR_mt_, mR_ml_, mR_mv_, mR_ma_, mR_mg_, mR_me_, mR_mw_, mR_mb_, mR_md_, mR_mr_, mR_mV_, mR_mf_, mR_mh_, mR_mk_, mR_mR_, xc_xA_, xc_xF_, xc_xM_, xc_xS_, xc_xl_, xc_xn_, xc_xa_, xc_xg_, xc_xe_, xc_xw_, xc_xC_, xc_xc_, xC_xA_, xC_xF_, xC_xM_, xC_xS_, xC_xl_, xC_xn_, xC_xa_, xC_xg_, xC_xe_, xC_xw_, xC_xC_, xC_xc_]; exact r17
theorem S_xa0 {n : Nat} {u : XS} {v : MS} (h : RI n u v) (hnn : xn u = 0) : RI n (xa_ u 0) (ma_ v 0) := by
  obtain ⟨⟨r1, r2, r3, r4, r5, r6, r7, r8, r9, r10, r11, r12, r13, r14, r15, r16, r17⟩, hX, hM⟩ := h
  refine ⟨⟨?_, ?_, ?_, ?_, ?_, ?_, ?_, ?_, ?_, ?_, ?_, ?_, ?_, ?_, ?_, ?_, ?_⟩, hX.sa bz0, hM.sa 0⟩
  · (try simp only [ml_mt_, ml_ml_, ml_mv_, ml_ma_, ml_mg_, ml_me_, ml_mw_, ml_mb_, ml_md_, ml_mr_, ml_mV_, ml_mf_, ml_mh_, ml_mk_, ml_mR_, xA_xA_, xA_xF_, xA_xM_, xA_xS_, xA_xl_, xA_xn_, xA_xa_, xA_xg_, xA_xe_, xA_xw_, xA_xC_, xA_xc_]); exact r1
  · (try simp only [mv_mt_, mv_ml_, mv_mv_, mv_ma_, mv_mg_, mv_me_, mv_mw_, mv_mb_, mv_md_, mv_mr_, mv_mV_, mv_mf_, mv_mh_, mv_mk_, mv_mR_, xA_xA_, xA_xF_, xA_xM_, xA_xS_, xA_xl_, xA_xn_, xA_xa_, xA_xg_, xA_xe_, xA_xw_, xA_xC_, xA_xc_]); exact r2
  · (try simp only [mf_mt_, mf_ml_, mf_mv_, mf_ma_, mf_mg_, mf_me_, mf_mw_, mf_mb_, mf_md_, mf_mr_, mf_mV_, mf_mf_, mf_mh_, mf_mk_, mf_mR_, xF_xA_, xF_xF_, xF_xM_, xF_xS_, xF_xl_, xF_xn_, xF_xa_, xF_xg_, xF_xe_, xF_xw_, xF_xC_, xF_xc_]); exact r3
  · (try simp only [mh_mt_, mh_ml_, mh_mv_, mh_ma_, mh_mg_, mh_me_, mh_mw_, mh_mb_, mh_md_, mh_mr_, mh_mV_, mh_mf_, mh_mh_, mh_mk_, mh_mR_, xF_xA_, xF_xF_, xF_xM_, xF_xS_, xF_xl_, xF_xn_, xF_xa_, xF_xg_, xF_xe_, xF_xw_, xF_xC_, xF_xc_]); exact r4
  · (try simp only [mV_mt_, mV_ml_, mV_mv_, mV_ma_, mV_mg_, mV_me_, mV_mw_, mV_mb_, mV_md_, mV_mr_, mV_mV_, mV_mf_, mV_mh_, mV_mk_, mV_mR_, xM_xA_, xM_xF_, xM_xM_, xM_xS_, xM_xl_, xM_xn_, xM_xa_, xM_xg_, xM_xe_, xM_xw_, xM_xC_, xM_xc_]); exact r5
  · (try simp only [mb_mt_, mb_ml_, mb_mv_, mb_ma_, mb_mg_, mb_me_, mb_mw_, mb_mb_, mb_md_, mb_mr_, mb_mV_, mb_mf_, mb_mh_, mb_mk_, mb_mR_, xS_xA_, xS_xF_, xS_xM_, xS_xS_, xS_xl_, xS_xn_, xS_xa_, xS_xg_, xS_xe_, xS_xw_, xS_xC_, xS_xc_]); exact r6
  · (try simp only [md_mt_, md_ml_, md_mv_, md_ma_, md_mg_, md_me_, md_mw_, md_mb_, md_md_, md_mr_, md_mV_, md_mf_, md_mh_, md_mk_, md_mR_, xS_xA_, xS_xF_, xS_xM_, xS_xS_, xS_xl_, xS_xn_, xS_xa_, xS_xg_, xS_xe_, xS_xw_, xS_xC_, xS_xc_]); exact r7
  · (try simp only [mr_mt_, mr_ml_, mr_mv_, mr_ma_, mr_mg_, mr_me_, mr_mw_, mr_mb_, mr_md_, mr_mr_, mr_mV_, mr_mf_, mr_mh_, mr_mk_, mr_mR_, xl_xA_, xl_xF_, xl_xM_, xl_xS_, xl_xl_, xl_xn_, xl_xa_, xl_xg_, xl_xe_, xl_xw_, xl_xC_, xl_xc_]); exact r8
  · (try simp only [me_mt_, me_ml_, me_mv_, me_ma_, me_mg_, me_me_, me_mw_, me_mb_, me_md_, me_mr_, me_mV_, me_mf_, me_mh_, me_mk_, me_mR_, xe_xA_, xe_xF_, xe_xM_, xe_xS_, xe_xl_, xe_xn_, xe_xa_, xe_xg_, xe_xe_, xe_xw_, xe_xC_, xe_xc_]); exact r9
  · (try simp only [mw_mt_, mw_ml_, mw_mv_, mw_ma_, mw_mg_, mw_me_, mw_mw_, mw_mb_, mw_md_, mw_mr_, mw_mV_, mw_mf_, mw_mh_, mw_mk_, mw_mR_, xw_xA_, xw_xF_, xw_xM_, xw_xS_, xw_xl_, xw_xn_, xw_xa_, xw_xg_, xw_xe_, xw_xw_, xw_xC_, xw_xc_]); exact r10
  · (try simp only [mg_mt_, mg_ml_, mg_mv_, mg_ma_, mg_mg_, mg_me_, mg_mw_, mg_mb_, mg_md_, mg_mr_, mg_mV_, mg_mf_, mg_mh_, mg_mk_, mg_mR_, xg_xA_, xg_xF_, xg_xM_, xg_xS_, xg_xl_, xg_xn_, xg_xa_, xg_xg_, xg_xe_, xg_xw_, xg_xC_, xg_xc_]); exact r11
  · refine Eq.trans (b := 0) (by simp only [ma_mt_, ma_ml_, ma_mv_, ma_ma_, ma_mg_, ma_me_, ma_mw_, ma_mb_, ma_md_, ma_mr_, ma_mV_, ma_mf_, ma_mh_, ma_mk_, ma_mR_]) (Eq.symm ((arm_v (a := 0) (b := 0) (by simp only [xn_xA_, xn_xF_, xn_xM_, xn_xS_, xn_xl_, xn_xn_, xn_xa_, xn_xg_, xn_xe_, xn_xw_, xn_xC_, xn_xc_]; exact hnn) (by simp only [xa_xA_, xa_xF_, xa_xM_, xa_xS_, xa_xl_, xa_xn_, xa_xa_, xa_xg_, xa_xe_, xa_xw_, xa_xC_, xa_xc_])).trans (by decide)))
  · (try simp only [xA_xA_, xA_xF_, xA_xM_, xA_xS_, xA_xl_, xA_xn_, xA_xa_, xA_xg_, xA_xe_, xA_xw_, xA_xC_, xA_xc_]); exact r13
  · (try simp only [xA_xA_, xA_xF_, xA_xM_, xA_xS_, xA_xl_, xA_xn_, xA_xa_, xA_xg_, xA_xe_, xA_xw_, xA_xC_, xA_xc_]); exact r14
  · (try simp only [xF_xA_, xF_xF_, xF_xM_, xF_xS_, xF_xl_, xF_xn_, xF_xa_, xF_xg_, xF_xe_, xF_xw_, xF_xC_, xF_xc_]); exact r15
  · (try simp only [xF_xA_, xF_xF_, xF_xM_, xF_xS_, xF_xl_, xF_xn_, xF_xa_, xF_xg_, xF_xe_, xF_xw_, xF_xC_, xF_xc_]); exact r16
  · unfold LG; simp only [mk_mt_, mk_ml_, mk_mv_, mk_ma_, mk_mg_, mk_me_, mk_mw_, mk_mb_, mk_md_, mk_mr_, mk_mV_, mk_mf_, mk_mh_, mk_mk_, mk_mR_, mR_mt_, mR_ml_, mR_mv_, mR_ma_, mR_mg_, mR_me_, mR_mw_, mR_mb_, mR_md_, mR_mr_, mR_mV_, mR_mf_, mR_mh_, mR_mk_, mR_mR_, xc_xA_, xc_xF_, xc_xM_, xc_xS_, xc_xl_, xc_xn_, xc_xa_, xc_xg_, xc_xe_, xc_xw_, xc_xC_, xc_xc_, xC_xA_, xC_xF_, xC_xM_, xC_xS_, xC_xl_, xC_xn_, xC_xa_, xC_xg_, xC_xe_, xC_xw_, xC_xC_, xC_xc_]; exact r17
def wN (v : MS) : Int32 := if mw v = 0 then (if me v = 0 then 0 else 1) else 1
theorem S_eng {n : Nat} {u : XS} {v : MS} (h : RI n u v) : RI n (pX0_disengageWithWarning u) (me_ (mw_ v (wN v)) 0) := by
  unfold pX0_disengageWithWarning
  by_cases q : xe u = 0
  · rw [if_pos q]
    have e0 : me v = 0 := by rw [h.1.2.2.2.2.2.2.2.2.1]; exact q
    have e1 : wN v = mw v := by
      unfold wN
      rcases h.2.2.2.2.1 with z | z
      · rw [if_pos z, if_pos e0, z]
      · rw [if_neg (by rw [z]; decide), z]
    rw [e1]
    have e2 := ew_self v
    rw [e0] at e2
    rw [e2]; exact h
  · rw [if_neg q]
    have e0 : ¬ me v = 0 := by rw [h.1.2.2.2.2.2.2.2.2.1]; exact q
    have e1 : wN v = 1 := by unfold wN; split <;> first | rfl | rw [if_neg e0]
    rw [e1]; exact S_ew h
theorem md8_0 : md8 0 := ⟨0, by decide, rfl⟩
theorem md8_1 : md8 1 := ⟨1, by decide, rfl⟩
theorem md8_2 : md8 2 := ⟨2, by decide, rfl⟩
theorem md8_3 : md8 3 := ⟨3, by decide, rfl⟩
theorem md8_4 : md8 4 := ⟨4, by decide, rfl⟩
theorem md8_5 : md8 5 := ⟨5, by decide, rfl⟩
theorem md8_6 : md8 6 := ⟨6, by decide, rfl⟩
theorem md8_7 : md8 7 := ⟨7, by decide, rfl⟩
theorem S_base {n : Nat} {u : XS} {v : MS} (h : RI n u v) (hn : n ≤ 2800000) : RI (n + 2) (pX0_goToBase u) (pX1_base v 0) := by
  unfold pX0_goToBase pX1_base
  rw [ltc_no, vtc_no]
  exact S_dis (S_ver (S_lat h (by omega) md8_1 bz0) (by omega) md8_1 bz0)
theorem no_mw (v : MS) : mw (pX1_noneArmed v) = mw v := by unfold pX1_noneArmed; rw [mw_mg_, mw_ma_]
theorem no_me (v : MS) : me (pX1_noneArmed v) = me v := by unfold pX1_noneArmed; rw [me_mg_, me_ma_]
theorem wN_no (v : MS) : wN (pX1_noneArmed v) = wN v := by unfold wN; simp only [no_mw, no_me]
theorem wN_lt (v : MS) (m b : Int32) : wN (pX1_lateralTo v m b) = wN v := by unfold wN; simp only [lt_mw, lt_me]
theorem wN_vt (v : MS) (m b : Int32) : wN (pX1_verticalTo v m b) = wN v := by unfold wN; simp only [vt_mw, vt_me]
theorem goOff_eq (v : MS) (b : Int32) : pX1_goOff v b = mh_ (mf_ (me_ (mw_ (pX1_noneArmed (pX1_verticalTo (pX1_lateralTo v 0 b) 0 b)) (wN v)) 0) 0) 0 := by
  have key : ∀ w : Int32, pX1_verticalTo (pX1_lateralTo (me_ (mw_ (pX1_noneArmed v) w) 0) 0 b) 0 b = me_ (mw_ (pX1_noneArmed (pX1_verticalTo (pX1_lateralTo v 0 b) 0 b)) w) 0 := fun w => by rw [ltc_me, ltc_mw, ltc_no, vtc_me, vtc_mw, vtc_no]
  unfold pX1_goOff wN
  rw [no_mw, no_me]
  by_cases h1 : mw v = 0
  · rw [if_pos h1, if_pos h1]
    by_cases h2 : me v = 0
    · rw [if_pos h2, if_pos h2, key]
    · rw [if_neg h2, if_neg h2, key]
  · rw [if_neg h1, if_neg h1, key]
theorem S_off {n : Nat} {u : XS} {v : MS} (h : RI n u v) (hn : n ≤ 2800000) {b : Int32} (hb : bz b) : RI (n + 2) (pX0_turnOff u b) (pX1_goOff v b) := by
  rw [goOff_eq]
  unfold pX0_turnOff
  have h2 := S_eng (S_dis (S_ver (S_lat h (by omega) md8_0 hb) (by omega) md8_0 hb))
  rw [wN_no, wN_vt, wN_lt] at h2
  exact S_stop h2
/-- the class leaves the course -/
theorem lc_eq (u : XS) (a b : Int32) : pX0_leaveCourseFor u a b = (if xa u = 0 then xg_ (if xA u 1 = 6 then pX0_change (pX0_change u 0 a b) 1 1 b else pX0_change u 0 a b) 0 else (if xA u 1 = 6 then pX0_change (pX0_change u 0 a b) 1 1 b else pX0_change u 0 a b)) := by
  unfold pX0_leaveCourseFor
  rw [tn1, c0_A1, ch_xa, ch_xa]
  by_cases h1 : xA u 1 = 6
  · rw [if_pos h1, if_pos h1]
  · rw [if_neg h1, if_neg h1]
theorem S_w {n : Nat} {u : XS} {v : MS} (h : RI n u v) (hn : n ≤ 2800000) {a b : Int32} (ha : md8 a) (hb : bz b) : RI (n + 2) (if xA u 1 = 6 then pX0_change (pX0_change u 0 a b) 1 1 b else pX0_change u 0 a b) (if mv v = 6 then pX1_verticalTo (pX1_lateralTo v a b) 1 b else pX1_lateralTo v a b) := by
  have e := h.1.2.1
  have h1 := S_lat h (by omega) ha hb
  by_cases q : xA u 1 = 6
  · rw [if_pos q, if_pos (by rw [e]; exact q)]
    exact S_ver h1 (by omega) md8_1 hb
  · rw [if_neg q, if_neg (by rw [e]; exact q)]
    exact ⟨h1.1, h1.2.1, h1.2.2.mono (by omega)⟩
theorem w_xg (u : XS) (a b : Int32) : xg (if xA u 1 = 6 then pX0_change (pX0_change u 0 a b) 1 1 b else pX0_change u 0 a b) = xg u := by
  split
  · rw [ch_xg, ch_xg]
  · rw [ch_xg]
theorem w_mg (v : MS) (a b : Int32) : mg (if mv v = 6 then pX1_verticalTo (pX1_lateralTo v a b) 1 b else pX1_lateralTo v a b) = mg v := by
  split
  · rw [vt_mg, lt_mg]
  · rw [lt_mg]
/-- leaving, where the reference's glide is told by 'armed and approach armed' -/
theorem S_leave {n : Nat} {u : XS} {v : MS} (h : RI n u v) (hn : n ≤ 2800000) {a b : Int32} (ha : md8 a) (hb : bz b) (hx : xn u ≠ 0 → xa u = 0) : RI (n + 2) (pX0_leaveCourseFor u a b) (mg_ (if mv v = 6 then pX1_verticalTo (pX1_lateralTo v a b) 1 b else pX1_lateralTo v a b) (if mg v = 0 then 0 else if ma v = 2 then 1 else 0)) := by
  rw [lc_eq]
  have hw := S_w h hn ha hb
  have eg : mg v = xg u := h.1.2.2.2.2.2.2.2.2.2.2.1
  have ea : ma v = arm u := h.1.2.2.2.2.2.2.2.2.2.2.2.1
  have bg : bz (xg u) := h.2.1.2.2.2.1
  by_cases q : xa u = 0
  · rw [if_pos q]
    have e2 : ¬ ma v = 2 := by rw [ea]; unfold arm; rw [q]; split <;> decide
    rw [if_neg e2]
    rw [show (if mg v = 0 then (0 : Int32) else 0) = 0 by split <;> rfl]
    exact S_gl hw bz0
  · rw [if_neg q]
    have e0 : xn u = 0 := by
      by_cases z : xn u = 0
      · exact z
      · exact absurd (hx z) q
    have e2 : ma v = 2 := by rw [ea]; unfold arm; rw [if_pos e0, if_neg q]
    rw [if_pos e2]
    have e3 : (if mg v = 0 then (0 : Int32) else 1) = xg u := by
      rw [eg]
      rcases bg with z | z
      · rw [if_pos z, z]
      · rw [if_neg (by rw [z]; decide), z]
    rw [e3]
    have := S_gl hw bg
    rw [← w_xg u a b, g_self] at this
    rw [w_xg] at this
    exact this
theorem S_co2 {n : Nat} {u : XS} {v : MS} (h : RI n u v) (hn : n ≤ 2800000) (hx : xn u ≠ 0 → xa u = 0) : RI (n + 2) (pX0_leaveCourseFor u 1 1) (pX1_comes v 2) := by
  obtain ⟨w, x, e1, e2, e3⟩ := co2 v
  rw [e1, e2, e3]
  exact S_leave h hn md8_1 bz1 hx
theorem oa_y {v : MS} (h : ml v = 4) (a : Int32) : pX1_outOfApproach v a = mg_ (if mv v = 6 then pX1_verticalTo (pX1_lateralTo v a 0) 1 0 else pX1_lateralTo v a 0) (if mg v = 0 then 0 else if ma v = 2 then 1 else 0) := by
  unfold pX1_outOfApproach
  rw [if_pos h, lt_mv]
  by_cases h6 : mv v = 6
  · rw [if_pos h6, if_pos h6, vt_mg, lt_mg, vt_ma, lt_ma]
    by_cases h2 : mg v = 0
    · rw [if_pos h2, if_pos h2]
    · rw [if_neg h2, if_neg h2]
      by_cases h3 : ma v = 2
      · rw [if_pos h3, if_pos h3]
      · rw [if_neg h3, if_neg h3]
  · rw [if_neg h6, if_neg h6, lt_mg, lt_ma]
    by_cases h2 : mg v = 0
    · rw [if_pos h2, if_pos h2]
    · rw [if_neg h2, if_neg h2]
      by_cases h3 : ma v = 2
      · rw [if_pos h3, if_pos h3]
      · rw [if_neg h3, if_neg h3]
theorem oa_n {v : MS} (h : ¬ ml v = 4) (hb : bz (mg v)) (a : Int32) : pX1_outOfApproach v a = pX1_lateralTo v a 0 := by
  unfold pX1_outOfApproach
  rw [if_neg h, lt_mg]
  have e := mg_self (pX1_lateralTo v a 0)
  rw [lt_mg] at e
  rcases hb with z | z
  · rw [if_pos z]; rw [z] at e; exact e
  · rw [if_neg (by rw [z]; decide)]; rw [z] at e; exact e
