theorem S_fl {n : Nat} {u : XS} {v : MS} (h : RI n u v) {x y : Int32} (hx : fl10 x) (hy : fl10 y) : RI n (xF_ u (upd (upd (xF u) 0 x) 1 y)) (mh_ (mf_ v x) y) := by
  obtain ⟨⟨r1, r2, r3, r4, r5, r6, r7, r8, r9, r10, r11, r12, r13, r14, r15, r16, r17⟩, hX, hM⟩ := h
  refine ⟨⟨?_, ?_, ?_, ?_, ?_, ?_, ?_, ?_, ?_, ?_, ?_, ?_, ?_, ?_, ?_, ?_, ?_⟩, hX.sF _, (hM.sf x).sh y⟩
  · (try simp only [ml_mt_, ml_ml_, ml_mv_, ml_ma_, ml_mg_, ml_me_, ml_mw_, ml_mb_, ml_md_, ml_mr_, ml_mV_, ml_mf_, ml_mh_, ml_mk_, ml_mR_, xA_xA_, xA_xF_, xA_xM_, xA_xS_, xA_xl_, xA_xn_, xA_xa_, xA_xg_, xA_xe_, xA_xw_, xA_xC_, xA_xc_]); exact r1
  · (try simp only [mv_mt_, mv_ml_, mv_mv_, mv_ma_, mv_mg_, mv_me_, mv_mw_, mv_mb_, mv_md_, mv_mr_, mv_mV_, mv_mf_, mv_mh_, mv_mk_, mv_mR_, xA_xA_, xA_xF_, xA_xM_, xA_xS_, xA_xl_, xA_xn_, xA_xa_, xA_xg_, xA_xe_, xA_xw_, xA_xC_, xA_xc_]); exact r2
  · simp only [mf_mt_, mf_ml_, mf_mv_, mf_ma_, mf_mg_, mf_me_, mf_mw_, mf_mb_, mf_md_, mf_mr_, mf_mV_, mf_mf_, mf_mh_, mf_mk_, mf_mR_, xF_xA_, xF_xF_, xF_xM_, xF_xS_, xF_xl_, xF_xn_, xF_xa_, xF_xg_, xF_xe_, xF_xw_, xF_xC_, xF_xc_]; rw [pk_un (by decide), pk_us]
  · simp only [mh_mt_, mh_ml_, mh_mv_, mh_ma_, mh_mg_, mh_me_, mh_mw_, mh_mb_, mh_md_, mh_mr_, mh_mV_, mh_mf_, mh_mh_, mh_mk_, mh_mR_, xF_xA_, xF_xF_, xF_xM_, xF_xS_, xF_xl_, xF_xn_, xF_xa_, xF_xg_, xF_xe_, xF_xw_, xF_xC_, xF_xc_]; rw [pk_us]
  · (try simp only [mV_mt_, mV_ml_, mV_mv_, mV_ma_, mV_mg_, mV_me_, mV_mw_, mV_mb_, mV_md_, mV_mr_, mV_mV_, mV_mf_, mV_mh_, mV_mk_, mV_mR_, xM_xA_, xM_xF_, xM_xM_, xM_xS_, xM_xl_, xM_xn_, xM_xa_, xM_xg_, xM_xe_, xM_xw_, xM_xC_, xM_xc_]); exact r5
  · (try simp only [mb_mt_, mb_ml_, mb_mv_, mb_ma_, mb_mg_, mb_me_, mb_mw_, mb_mb_, mb_md_, mb_mr_, mb_mV_, mb_mf_, mb_mh_, mb_mk_, mb_mR_, xS_xA_, xS_xF_, xS_xM_, xS_xS_, xS_xl_, xS_xn_, xS_xa_, xS_xg_, xS_xe_, xS_xw_, xS_xC_, xS_xc_]); exact r6
  · (try simp only [md_mt_, md_ml_, md_mv_, md_ma_, md_mg_, md_me_, md_mw_, md_mb_, md_md_, md_mr_, md_mV_, md_mf_, md_mh_, md_mk_, md_mR_, xS_xA_, xS_xF_, xS_xM_, xS_xS_, xS_xl_, xS_xn_, xS_xa_, xS_xg_, xS_xe_, xS_xw_, xS_xC_, xS_xc_]); exact r7
  · (try simp only [mr_mt_, mr_ml_, mr_mv_, mr_ma_, mr_mg_, mr_me_, mr_mw_, mr_mb_, mr_md_, mr_mr_, mr_mV_, mr_mf_, mr_mh_, mr_mk_, mr_mR_, xl_xA_, xl_xF_, xl_xM_, xl_xS_, xl_xl_, xl_xn_, xl_xa_, xl_xg_, xl_xe_, xl_xw_, xl_xC_, xl_xc_]); exact r8
  · (try simp only [me_mt_, me_ml_, me_mv_, me_ma_, me_mg_, me_me_, me_mw_, me_mb_, me_md_, me_mr_, me_mV_, me_mf_, me_mh_, me_mk_, me_mR_, xe_xA_, xe_xF_, xe_xM_, xe_xS_, xe_xl_, xe_xn_, xe_xa_, xe_xg_, xe_xe_, xe_xw_, xe_xC_, xe_xc_]); exact r9
  · (try simp only [mw_mt_, mw_ml_, mw_mv_, mw_ma_, mw_mg_, mw_me_, mw_mw_, mw_mb_, mw_md_, mw_mr_, mw_mV_, mw_mf_, mw_mh_, mw_mk_, mw_mR_, xw_xA_, xw_xF_, xw_xM_, xw_xS_, xw_xl_, xw_xn_, xw_xa_, xw_xg_, xw_xe_, xw_xw_, xw_xC_, xw_xc_]); exact r10
  · (try simp only [mg_mt_, mg_ml_, mg_mv_, mg_ma_, mg_mg_, mg_me_, mg_mw_, mg_mb_, mg_md_, mg_mr_, mg_mV_, mg_mf_, mg_mh_, mg_mk_, mg_mR_, xg_xA_, xg_xF_, xg_xM_, xg_xS_, xg_xl_, xg_xn_, xg_xa_, xg_xg_, xg_xe_, xg_xw_, xg_xC_, xg_xc_]); exact r11
  · refine Eq.trans (b := ma v) (by (try simp only [ma_mt_, ma_ml_, ma_mv_, ma_ma_, ma_mg_, ma_me_, ma_mw_, ma_mb_, ma_md_, ma_mr_, ma_mV_, ma_mf_, ma_mh_, ma_mk_, ma_mR_, xn_xA_, xn_xF_, xn_xM_, xn_xS_, xn_xl_, xn_xn_, xn_xa_, xn_xg_, xn_xe_, xn_xw_, xn_xC_, xn_xc_, xa_xA_, xa_xF_, xa_xM_, xa_xS_, xa_xl_, xa_xn_, xa_xa_, xa_xg_, xa_xe_, xa_xw_, xa_xC_, xa_xc_])) (r12.trans (arm_c (by (try simp only [ma_mt_, ma_ml_, ma_mv_, ma_ma_, ma_mg_, ma_me_, ma_mw_, ma_mb_, ma_md_, ma_mr_, ma_mV_, ma_mf_, ma_mh_, ma_mk_, ma_mR_, xn_xA_, xn_xF_, xn_xM_, xn_xS_, xn_xl_, xn_xn_, xn_xa_, xn_xg_, xn_xe_, xn_xw_, xn_xC_, xn_xc_, xa_xA_, xa_xF_, xa_xM_, xa_xS_, xa_xl_, xa_xn_, xa_xa_, xa_xg_, xa_xe_, xa_xw_, xa_xC_, xa_xc_])) (by (try simp only [ma_mt_, ma_ml_, ma_mv_, ma_ma_, ma_mg_, ma_me_, ma_mw_, ma_mb_, ma_md_, ma_mr_, ma_mV_, ma_mf_, ma_mh_, ma_mk_, ma_mR_, xn_xA_, xn_xF_, xn_xM_, xn_xS_, xn_xl_, xn_xn_, xn_xa_, xn_xg_, xn_xe_, xn_xw_, xn_xC_, xn_xc_, xa_xA_, xa_xF_, xa_xM_, xa_xS_, xa_xl_, xa_xn_, xa_xa_, xa_xg_, xa_xe_, xa_xw_, xa_xC_, xa_xc_]))))
  · (try simp only [xA_xA_, xA_xF_, xA_xM_, xA_xS_, xA_xl_, xA_xn_, xA_xa_, xA_xg_, xA_xe_, xA_xw_, xA_xC_, xA_xc_]); exact r13
  · (try simp only [xA_xA_, xA_xF_, xA_xM_, xA_xS_, xA_xl_, xA_xn_, xA_xa_, xA_xg_, xA_xe_, xA_xw_, xA_xC_, xA_xc_]); exact r14
  · simp only [xF_xA_, xF_xF_, xF_xM_, xF_xS_, xF_xl_, xF_xn_, xF_xa_, xF_xg_, xF_xe_, xF_xw_, xF_xC_, xF_xc_]; rw [pk_un (by decide), pk_us]; exact hx
  · simp only [xF_xA_, xF_xF_, xF_xM_, xF_xS_, xF_xl_, xF_xn_, xF_xa_, xF_xg_, xF_xe_, xF_xw_, xF_xC_, xF_xc_]; rw [pk_us]; exact hy
  · unfold LG; simp only [mk_mt_, mk_ml_, mk_mv_, mk_ma_, mk_mg_, mk_me_, mk_mw_, mk_mb_, mk_md_, mk_mr_, mk_mV_, mk_mf_, mk_mh_, mk_mk_, mk_mR_, mR_mt_, mR_ml_, mR_mv_, mR_ma_, mR_mg_, mR_me_, mR_mw_, mR_mb_, mR_md_, mR_mr_, mR_mV_, mR_mf_, mR_mh_, mR_mk_, mR_mR_, xc_xA_, xc_xF_, xc_xM_, xc_xS_, xc_xl_, xc_xn_, xc_xa_, xc_xg_, xc_xe_, xc_xw_, xc_xC_, xc_xc_, xC_xA_, xC_xF_, xC_xM_, xC_xS_, xC_xl_, xC_xn_, xC_xa_, xC_xg_, xC_xe_, xC_xw_, xC_xC_, xC_xc_]; exact r17
theorem good1 (v : MS) : pX1_good v 1 = (1, mt_ v 0) := by unfold pX1_good; rw [if_neg (by decide)]
theorem good0 (v : MS) : pX1_good v 0 = (0, mt_ v 1) := by unfold pX1_good; rw [if_pos rfl]
theorem RRi {n : Nat} {u : XS} {v : MS} (h : RI n u v) (hJ : JJ u) (hG : G64 u) : RR u v := ⟨h.1, hJ, hG⟩
theorem RRm {n : Nat} {u : XS} {v : MS} (h : RR u v) (hI : InvX u) (hM : InvM n v) (y : Int32) : RR u (mt_ v y) := ⟨(S_mt ⟨h.1, hI, hM⟩ y).1, h.2.1, h.2.2⟩
theorem SimNo {n : Nat} {u : XS} {v : MS} (h : RR u v) (hI : InvX u) (hM : InvM n v) : SimT none u (0, (pX1_good v 0).2) := by
  rw [good0]; exact ⟨by rw [mt_mt_], RRm h hI hM 1⟩
theorem sim_init : RR iX iM := by
  refine ⟨⟨rfl, rfl, rfl, rfl, rfl, by decide, by decide, rfl, rfl, rfl, rfl, by decide, md8_0, md8_0, ⟨0, by decide, rfl⟩, ⟨0, by decide, rfl⟩, ?_⟩, JJ_dis rfl rfl rfl, fun h => absurd h (by decide)⟩
  refine ⟨by decide, fun j hj => ?_⟩
  exact absurd hj (by rw [show (mk iM).toNatClampNeg = 0 by decide]; omega)
theorem sim_mode {u : XS} {v : MS} {n : Nat} (h : RR u v) (hI : InvX u) (hM : InvM n v) (hn : n ≤ 1000000) (a1 : Int32) : SimT (pX0_mode u a1) u (pX1_mode v a1) := by
  unfold pX0_mode pX1_mode
  by_cases c0 : a1 = 0
  · rw [if_pos c0, if_pos c0, if_pos c0, good1]
    refine ⟨by rw [mt_mt_], ?_, RRm h hI hM 0⟩
    rw [ml_mt_, c0, tn0]; exact h.1.1
  · rw [if_neg c0, if_neg c0]
    by_cases c1 : a1 = 1
    · rw [if_pos c1, if_pos c1, if_neg c0, good1]
      refine ⟨by rw [mt_mt_], ?_, RRm h hI hM 0⟩
      rw [mv_mt_, c1, tn1]; exact h.1.2.1
    · rw [if_neg c1, if_neg c1]; exact SimNo h hI hM
theorem sim_armed {u : XS} {v : MS} {n : Nat} (h : RR u v) (hI : InvX u) (hM : InvM n v) (hn : n ≤ 1000000) (a1 : Int32) : SimT (pX0_armed u a1) u (pX1_armed v a1) := by
  have hr := RRm h hI hM 0
  unfold pX0_armed pX1_armed
  rw [good1]
  dsimp only
  by_cases c0 : a1 = 0
  · subst c0
    rw [if_pos rfl, if_neg (by decide), if_neg (by decide), if_pos rfl]
    rcases hI.2.1 with z | z
    · rw [if_neg (fun q => (am_1 hr.1).mp q z)]; exact ⟨by rw [mt_mt_], z.symm, hr⟩
    · rw [if_pos ((am_1 hr.1).mpr (by rw [z]; decide))]; exact ⟨by rw [mt_mt_], z.symm, hr⟩
  · rw [if_neg c0]
    by_cases c1 : a1 = 1
    · subst c1
      rw [if_pos rfl, if_neg (by decide), if_neg (by decide), if_neg (by decide), if_pos rfl]
      have ha := am_2 hr.1 h.2.1.2.2
      rcases hI.2.2.1 with z | z
      · rw [if_neg (fun q => ha.mp q z)]; exact ⟨by rw [mt_mt_], z.symm, hr⟩
      · rw [if_pos (ha.mpr (by rw [z]; decide))]; exact ⟨by rw [mt_mt_], z.symm, hr⟩
    · rw [if_neg c1]
      by_cases c2 : a1 = 2
      · subst c2
        rw [if_pos rfl, if_neg (by decide), if_neg (by decide), if_neg (by decide), if_neg (by decide), if_pos rfl]
        exact ⟨by rw [mt_mt_], hr.1.2.2.2.2.2.2.2.2.2.2.1, hr⟩
      · rw [if_neg c2]
        by_cases c3 : a1 = 3
        · subst c3
          rw [if_pos rfl, if_neg (by decide), if_neg (by decide), if_neg (by decide), if_neg (by decide), if_neg (by decide)]
          have hc := cap_iff hr.1
          have hv : pX0_isCaptureArmed u = 0 ∨ pX0_isCaptureArmed u = 1 := by
            unfold pX0_isCaptureArmed; split
            · exact Or.inr rfl
            · split
              · exact Or.inr rfl
              · split
                · exact Or.inr rfl
                · exact Or.inl rfl
          by_cases d1 : mv (mt_ v 0) ≤ 0
          · rw [if_pos d1]; exact ⟨by rw [mt_mt_], (hc.mpr (Or.inl d1)).symm, hr⟩
          · rw [if_neg d1]
            by_cases d2 : 4 ≤ mv (mt_ v 0)
            · rw [if_pos d2]; exact ⟨by rw [mt_mt_], (hc.mpr (Or.inr d2)).symm, hr⟩
            · rw [if_neg d2]
              refine ⟨by rw [mt_mt_], ?_, hr⟩
              rcases hv with z | z
              · exact absurd (hc.mp z) (fun q => q.elim d1 d2)
              · exact z.symm
        · rw [if_neg c3]
          by_cases d1 : a1 < 0
          · rw [if_pos d1]; exact SimNo h hI hM
          · rw [if_neg d1]
            by_cases d2 : 3 < a1
            · rw [if_pos d2]; exact SimNo h hI hM
            · exfalso
              obtain ⟨j, hj, rfl⟩ := nI_of d1
              have : j < 4 := by
                rcases Nat.lt_or_ge j 4 with q | q
                · exact q
                · exact absurd (nI_lt (a := 3) (b := j) q hj) d2
              rcases (show j = 0 ∨ j = 1 ∨ j = 2 ∨ j = 3 by omega) with rfl | rfl | rfl | rfl
              · exact c0 rfl
              · exact c1 rfl
              · exact c2 rfl
              · exact c3 rfl
theorem im_0 {a : Int32} : pX0_isMeasure a = 0 ↔ (a < 0 ∨ 6 < a) := by
  unfold pX0_isMeasure
  by_cases c0 : a < 0
  · rw [if_pos c0]; exact ⟨fun _ => Or.inl c0, fun _ => rfl⟩
  · rw [if_neg c0]
    obtain ⟨j, hj, rfl⟩ := nI_of c0
    by_cases c1 : (7 : Int32) ≤ nI j
    · rw [if_pos c1]
      refine ⟨fun _ => Or.inr ?_, fun _ => rfl⟩
      have h7 : 7 ≤ j := (nI_leI (a := 7) (b := j) (by decide) hj).mp c1
      exact nI_lt (a := 6) (b := j) h7 hj
    · rw [if_neg c1]
      refine ⟨fun z => absurd z (by decide), fun z => ?_⟩
      rcases z with z | z
      · exact absurd z c0
      · have h6 : 6 < j := (nI_ltI (a := 6) (b := j) (by decide) hj).mp z
        exact absurd (nI_le (a := 7) (b := j) h6 hj) c1
theorem sim_measure {u : XS} {v : MS} {n : Nat} (h : RR u v) (hI : InvX u) (hM : InvM n v) (hn : n ≤ 1000000) (a1 : Int32) : SimT (pX0_measure u a1) u (pX1_measure v a1) := by
  unfold pX0_measure pX1_measure
  by_cases c0 : a1 < 0
  · rw [if_pos (im_0.mpr (Or.inl c0)), if_pos c0]; exact SimNo h hI hM
  · by_cases c1 : 6 < a1
    · rw [if_pos (im_0.mpr (Or.inr c1)), if_neg c0, if_pos c1]; exact SimNo h hI hM
    · rw [if_neg (fun z => (im_0.mp z).elim c0 c1), if_neg c0, if_neg c1, good1]
      refine ⟨by rw [mt_mt_], ?_, RRm h hI hM 0⟩
      rw [mV_mt_, h.1.2.2.2.2.1]
theorem sim_disconnect {u : XS} {v : MS} {n : Nat} (h : RR u v) (hI : InvX u) (hM : InvM n v) (hn : n ≤ 1000000) : (pX0_disconnect u).1 = (pX1_disconnect v).1 ∧ RR (pX0_disconnect u).2 (pX1_disconnect v).2 := by
  have hr := S_mt (⟨h.1, hI, hM⟩ : RI n u v) 0
  have ee : me (mt_ v 0) = xe u := hr.1.2.2.2.2.2.2.2.2.1
  have ew : mw (mt_ v 0) = xw u := hr.1.2.2.2.2.2.2.2.2.2.1
  unfold pX0_disconnect pX1_disconnect pX1_disconnect_28
  rw [ee, ew]
  by_cases c0 : xe u = 0
  · rw [if_pos c0, if_pos c0]
    have e1 : ∀ w : MS, me w = 0 → me_ (mw_ w 0) 0 = mw_ w 0 := fun w hw => MS_ext (by simp only [mt_mt_, mt_ml_, mt_mv_, mt_ma_, mt_mg_, mt_me_, mt_mw_, mt_mb_, mt_md_, mt_mr_, mt_mV_, mt_mf_, mt_mh_, mt_mk_, mt_mR_]) (by simp only [ml_mt_, ml_ml_, ml_mv_, ml_ma_, ml_mg_, ml_me_, ml_mw_, ml_mb_, ml_md_, ml_mr_, ml_mV_, ml_mf_, ml_mh_, ml_mk_, ml_mR_]) (by simp only [mv_mt_, mv_ml_, mv_mv_, mv_ma_, mv_mg_, mv_me_, mv_mw_, mv_mb_, mv_md_, mv_mr_, mv_mV_, mv_mf_, mv_mh_, mv_mk_, mv_mR_]) (by simp only [ma_mt_, ma_ml_, ma_mv_, ma_ma_, ma_mg_, ma_me_, ma_mw_, ma_mb_, ma_md_, ma_mr_, ma_mV_, ma_mf_, ma_mh_, ma_mk_, ma_mR_]) (by simp only [mg_mt_, mg_ml_, mg_mv_, mg_ma_, mg_mg_, mg_me_, mg_mw_, mg_mb_, mg_md_, mg_mr_, mg_mV_, mg_mf_, mg_mh_, mg_mk_, mg_mR_]) (by simp only [me_mt_, me_ml_, me_mv_, me_ma_, me_mg_, me_me_, me_mw_, me_mb_, me_md_, me_mr_, me_mV_, me_mf_, me_mh_, me_mk_, me_mR_]; exact hw.symm) (by simp only [mw_mt_, mw_ml_, mw_mv_, mw_ma_, mw_mg_, mw_me_, mw_mw_, mw_mb_, mw_md_, mw_mr_, mw_mV_, mw_mf_, mw_mh_, mw_mk_, mw_mR_]) (by simp only [mb_mt_, mb_ml_, mb_mv_, mb_ma_, mb_mg_, mb_me_, mb_mw_, mb_mb_, mb_md_, mb_mr_, mb_mV_, mb_mf_, mb_mh_, mb_mk_, mb_mR_]) (by simp only [md_mt_, md_ml_, md_mv_, md_ma_, md_mg_, md_me_, md_mw_, md_mb_, md_md_, md_mr_, md_mV_, md_mf_, md_mh_, md_mk_, md_mR_]) (by simp only [mr_mt_, mr_ml_, mr_mv_, mr_ma_, mr_mg_, mr_me_, mr_mw_, mr_mb_, mr_md_, mr_mr_, mr_mV_, mr_mf_, mr_mh_, mr_mk_, mr_mR_]) (by simp only [mV_mt_, mV_ml_, mV_mv_, mV_ma_, mV_mg_, mV_me_, mV_mw_, mV_mb_, mV_md_, mV_mr_, mV_mV_, mV_mf_, mV_mh_, mV_mk_, mV_mR_]) (by simp only [mf_mt_, mf_ml_, mf_mv_, mf_ma_, mf_mg_, mf_me_, mf_mw_, mf_mb_, mf_md_, mf_mr_, mf_mV_, mf_mf_, mf_mh_, mf_mk_, mf_mR_]) (by simp only [mh_mt_, mh_ml_, mh_mv_, mh_ma_, mh_mg_, mh_me_, mh_mw_, mh_mb_, mh_md_, mh_mr_, mh_mV_, mh_mf_, mh_mh_, mh_mk_, mh_mR_]) (by simp only [mk_mt_, mk_ml_, mk_mv_, mk_ma_, mk_mg_, mk_me_, mk_mw_, mk_mb_, mk_md_, mk_mr_, mk_mV_, mk_mf_, mk_mh_, mk_mk_, mk_mR_]) (by simp only [mR_mt_, mR_ml_, mR_mv_, mR_ma_, mR_mg_, mR_me_, mR_mw_, mR_mb_, mR_md_, mR_mr_, mR_mV_, mR_mf_, mR_mh_, mR_mk_, mR_mR_])
    by_cases c1 : xw u = 0
    · rw [if_pos c1, if_pos c1]
      refine ⟨rfl, ?_⟩
      show RR u (me_ (mw_ (mt_ v 0) (xe u)) 0)
      rw [c0, e1 _ (by rw [ee]; exact c0)]
      have e2 := ew_self (mt_ v 0)
      rw [ee, ew, c0, c1, e1 _ (by rw [ee]; exact c0)] at e2
      rw [e2]; exact ⟨hr.1, h.2.1, h.2.2⟩
    · rw [if_neg c1, if_neg c1]
      refine ⟨rfl, ?_⟩
      show RR (xw_ u 0) (me_ (mw_ (mt_ v 0) (xe u)) 0)
      rw [c0, e1 _ (by rw [ee]; exact c0)]
      exact ⟨(S_w0 hr).1, JJ_same h.2.1 (by rw [xA_xw_]) (by rw [xn_xw_]) (by rw [xa_xw_]) (by rw [xg_xw_]), by rw [xA_xw_]; exact h.2.2⟩
  · rw [if_neg c0, if_neg c0]
    refine ⟨rfl, ?_⟩
    show RR (pX0_disengageWithWarning u) (me_ (mw_ (mt_ v 0) (xe u)) 0)
    have e1 : xe u = 1 := by
      rcases hI.2.2.2.2.1 with z | z
      · exact absurd z c0
      · exact z
    rw [e1]
    unfold pX0_disengageWithWarning
    rw [if_neg c0]
    exact ⟨(S_ew hr).1, JJ_same h.2.1 (by rw [xA_xw_, xA_xe_]) (by rw [xn_xw_, xn_xe_]) (by rw [xa_xw_, xa_xe_]) (by rw [xg_xw_, xg_xe_]), by rw [xA_xw_, xA_xe_]; exact h.2.2⟩
/-- the two numbers that a press compares -/
def nuX (l v n a g e r : Int32) : Int32 := if r = 1 then (((((l ||| (v <<< ((3 : Int32) &&& 31))) ||| pX0_bit n 64) ||| pX0_bit a 128) ||| pX0_bit g 256) ||| pX0_bit e 512) ||| pX0_bit 1 1024 else (((((l ||| (v <<< ((3 : Int32) &&& 31))) ||| pX0_bit n 64) ||| pX0_bit a 128) ||| pX0_bit g 256) ||| pX0_bit e 512) ||| pX0_bit 0 1024
def nuM (l v a g e r : Int32) : Int32 := if g = 0 then (if e = 0 then (((((l + 8 * v) + 64 * a) + 0) + 0) + 1024 * r) else (((((l + 8 * v) + 64 * a) + 0) + 512) + 1024 * r)) else (if e = 0 then (((((l + 8 * v) + 64 * a) + 256) + 0) + 1024 * r) else (((((l + 8 * v) + 64 * a) + 256) + 512) + 1024 * r))
set_option maxRecDepth 100000 in
theorem nu_d : ∀ (l v : Fin 8) (n a g e r : Fin 2), ¬ (n = 1 ∧ a = 1) → nuX (nI l.val) (nI v.val) (nI n.val) (nI a.val) (nI g.val) (nI e.val) (nI r.val) = nuM (nI l.val) (nI v.val) (if nI n.val = 0 then (if nI a.val = 0 then 0 else 2) else 1) (nI g.val) (nI e.val) (nI r.val) := by decide +kernel
theorem num_eq {n : Nat} {u : XS} {v : MS} (h : RI n u v) (hx : xn u ≠ 0 → xa u = 0) : pX0_stateAsNumber u = pX1_sum v := by
  obtain ⟨⟨r1, r2, r3, r4, r5, r6, r7, r8, r9, r10, r11, r12, ⟨a, ha, ea⟩, ⟨b, hb, eb⟩, -⟩, hX, hM⟩ := h
  obtain ⟨p1, q1, e1⟩ := bz_01 hX.1
  obtain ⟨p2, q2, e2⟩ := bz_01 hX.2.1
  obtain ⟨p3, q3, e3⟩ := bz_01 hX.2.2.1
  obtain ⟨p4, q4, e4⟩ := bz_01 hX.2.2.2.1
  obtain ⟨p5, q5, e5⟩ := bz_01 hX.2.2.2.2.1
  have hX1 : pX0_stateAsNumber u = nuX (xA u 0) (xA u 1) (xn u) (xa u) (xg u) (xe u) (xl u) := by
    unfold pX0_stateAsNumber pX0_stateAsNumber_71 nuX; rw [tn0, tn1]
  have hM1 : pX1_sum v = nuM (ml v) (mv v) (ma v) (mg v) (me v) (mr v) := rfl
  rw [hX1, hM1, r1, r2, r8, r9, r11, r12]
  unfold arm
  rw [ea, eb, e1, e2, e3, e4, e5]
  refine nu_d ⟨a, ha⟩ ⟨b, hb⟩ ⟨p2, q2⟩ ⟨p3, q3⟩ ⟨p4, q4⟩ ⟨p5, q5⟩ ⟨p1, q1⟩ (fun z => ?_)
  have z1 : p2 = 1 := congrArg Fin.val z.1
  have z2 : p3 = 1 := congrArg Fin.val z.2
  rw [e2, e3, z1, z2] at hx
  exact absurd (hx (by decide)) (by decide)
def shX (o e w f g r : Int32) : Int32 := if f ≤ 0 then (if g ≤ 0 then (if r = 1 then (((((pX0_bit o 1 ||| pX0_bit e 2) ||| pX0_bit w 4) ||| pX0_bit 0 8) ||| pX0_bit 0 16) ||| pX0_bit 1 32) else (((((pX0_bit o 1 ||| pX0_bit e 2) ||| pX0_bit w 4) ||| pX0_bit 0 8) ||| pX0_bit 0 16) ||| pX0_bit 0 32)) else (if r = 1 then (((((pX0_bit o 1 ||| pX0_bit e 2) ||| pX0_bit w 4) ||| pX0_bit 0 8) ||| pX0_bit 1 16) ||| pX0_bit 1 32) else (((((pX0_bit o 1 ||| pX0_bit e 2) ||| pX0_bit w 4) ||| pX0_bit 0 8) ||| pX0_bit 1 16) ||| pX0_bit 0 32))) else (if g ≤ 0 then (if r = 1 then (((((pX0_bit o 1 ||| pX0_bit e 2) ||| pX0_bit w 4) ||| pX0_bit 1 8) ||| pX0_bit 0 16) ||| pX0_bit 1 32) else (((((pX0_bit o 1 ||| pX0_bit e 2) ||| pX0_bit w 4) ||| pX0_bit 1 8) ||| pX0_bit 0 16) ||| pX0_bit 0 32)) else (if r = 1 then (((((pX0_bit o 1 ||| pX0_bit e 2) ||| pX0_bit w 4) ||| pX0_bit 1 8) ||| pX0_bit 1 16) ||| pX0_bit 1 32) else (((((pX0_bit o 1 ||| pX0_bit e 2) ||| pX0_bit w 4) ||| pX0_bit 1 8) ||| pX0_bit 1 16) ||| pX0_bit 0 32)))
def sh5 (g r j : Int32) : Int32 := if g ≤ 0 then j + 32 * r else (j + 16) + 32 * r
def sh4 (f g r j : Int32) : Int32 := if f ≤ 0 then sh5 g r j else sh5 g r (j + 8)
def sh3 (w f g r j : Int32) : Int32 := if w = 0 then sh4 f g r j else sh4 f g r (j + 4)
def sh2 (e w f g r j : Int32) : Int32 := if e = 0 then sh3 w f g r j else sh3 w f g r (j + 2)
def sh1 (l e w f g r : Int32) : Int32 := if l ≤ 0 then sh2 e w f g r 0 else sh2 e w f g r 1
set_option maxRecDepth 100000 in
theorem sh_d : ∀ (l : Fin 8) (e w r : Fin 2) (f g : Fin 11), shX (if nI l.val = 0 then 0 else 1) (nI e.val) (nI w.val) (nI f.val) (nI g.val) (nI r.val) = sh1 (nI l.val) (nI e.val) (nI w.val) (nI f.val) (nI g.val) (nI r.val) := by decide +kernel
theorem sim_shown {u : XS} {v : MS} {n : Nat} (h : RR u v) (hI : InvX u) (hM : InvM n v) (hn : n ≤ 1000000) : pX0_shown u = (pX1_shown v).1 ∧ RR u (pX1_shown v).2 := by
  have hs2 : (pX1_shown v).2 = mt_ v 0 := by
    unfold pX1_shown pX1_shown_17 pX1_shown_32 pX1_shown_47 pX1_shown_63 pX1_shown_79
    split <;> split <;> split <;> split <;> split <;> rfl
  rw [hs2]
  refine ⟨?_, RRm h hI hM 0⟩
  have hs1 : (pX1_shown v).1 = sh1 (ml (mt_ v 0)) (me (mt_ v 0)) (mw (mt_ v 0)) (mf (mt_ v 0)) (mh (mt_ v 0)) (mr (mt_ v 0)) := by
    unfold pX1_shown pX1_shown_17 pX1_shown_32 pX1_shown_47 pX1_shown_63 pX1_shown_79 sh1 sh2 sh3 sh4 sh5
    split <;> split <;> split <;> split <;> split <;> rfl
  have hx1 : pX0_shown u = shX (if xA u 0 = 0 then 0 else 1) (xe u) (xw u) (xF u 0) (xF u 1) (xl u) := by
    unfold pX0_shown pX0_shown_40 pX0_shown_60 pX0_shown_79 shX pX0_isOn; rw [tn0, tn1]
  obtain ⟨⟨r1, r2, r3, r4, r5, r6, r7, r8, r9, r10, r11, r12, ⟨a, ha, ea⟩, -, ⟨f, hf, ef⟩, ⟨g, hg, eg⟩, -⟩, -, -⟩ := h
  obtain ⟨p1, q1, e1⟩ := bz_01 hI.1
  obtain ⟨p5, q5, e5⟩ := bz_01 hI.2.2.2.2.1
  obtain ⟨p6, q6, e6⟩ := bz_01 hI.2.2.2.2.2.1
  rw [hs1, ml_mt_, me_mt_, mw_mt_, mf_mt_, mh_mt_, mr_mt_, hx1, r1, r3, r4, r8, r9, r10, ea, ef, eg, e1, e5, e6]
  exact sh_d ⟨a, ha⟩ ⟨p5, q5⟩ ⟨p6, q6⟩ ⟨p1, q1⟩ ⟨f, by omega⟩ ⟨g, by omega⟩
set_option maxRecDepth 100000 in
theorem row_d : ∀ (p b : Fin 2) (f t : Fin 8), encX (nI p.val) (nI f.val) (nI t.val) (nI b.val) &&& 1 = nI p.val ∧ (encX (nI p.val) (nI f.val) (nI t.val) (nI b.val) >>> ((1 : Int32) &&& 31)) &&& 7 = nI f.val ∧ (encX (nI p.val) (nI f.val) (nI t.val) (nI b.val) >>> ((4 : Int32) &&& 31)) &&& 7 = nI t.val ∧ (encX (nI p.val) (nI f.val) (nI t.val) (nI b.val) >>> ((7 : Int32) &&& 31)) &&& 1 = nI b.val := by decide +kernel
theorem row_v {c r0 r1 r2 r3 : Int32} (h : Row c r0 r1 r2 r3) : c &&& 1 = r0 ∧ (c >>> ((1 : Int32) &&& 31)) &&& 7 = r1 ∧ (c >>> ((4 : Int32) &&& 31)) &&& 7 = r2 ∧ (c >>> ((7 : Int32) &&& 31)) &&& 1 = r3 := by
  obtain ⟨p, f, t, b, hp, hf, ht, hb, e0, e1, e2, e3, ec⟩ := h
  have hd := row_d ⟨p, hp⟩ ⟨b, hb⟩ ⟨f, hf⟩ ⟨t, ht⟩
  rw [e0, e1, e2, e3, ec]
  exact hd
theorem sim_kept {u : XS} {v : MS} {n : Nat} (h : RR u v) (hI : InvX u) (hM : InvM n v) (hn : n ≤ 1000000) (a1 a2 : Int32) : pX0_kept u a1 a2 = (pX1_kept v a1 a2).1 ∧ RR u (pX1_kept v a1 a2).2 := by
  have hs2 : (pX1_kept v a1 a2).2 = mt_ v 0 := by
    unfold pX1_kept
    split
    · rfl
    · split
      · rfl
      · split
        · rfl
        · split
          · rfl
          · split <;> rfl
  rw [hs2]
  refine ⟨?_, RRm h hI hM 0⟩
  obtain ⟨g1, g2⟩ := h.1.2.2.2.2.2.2.2.2.2.2.2.2.2.2.2.2
  obtain ⟨k, hk, ek⟩ := hM.2.2.2.2.2.2
  have tk : (mk v).toNatClampNeg = k := by rw [ek]; exact nI_clamp (by omega)
  rw [tk] at g1 g2
  unfold pX0_kept pX1_kept
  rw [mk_mt_, mR_mt_]
  by_cases c0 : a1 < 0
  · rw [if_pos c0, if_pos c0]
  · rw [if_neg c0, if_neg c0]
    obtain ⟨j, hj, rfl⟩ := nI_of c0
    rw [g1, ek]
    by_cases c1 : nI j < nI (min k 300)
    · have hlt : j < min k 300 := (nI_ltI hj (by omega)).mp c1
      rw [if_pos c1, if_neg (nI_ge (a := j) (b := k) (by omega) (by omega)), if_neg (show ¬ (299 : Int32) < nI j from nI_nlt (a := 299) (b := j) (by omega) (by decide))]
      have hrow := row_v (g2 j hlt)
      have tj : (nI j).toNatClampNeg = j := nI_clamp hj
      have h4 : (4 : Int32) * nI j = nI (4 * j) := pk_mul 4 j
      rw [tj]
      by_cases d0 : a2 = 0
      · subst d0
        rw [if_pos rfl, if_neg (by decide), if_pos (by decide), h4, show nI (4 * j) + 0 = nI (4 * j) from nI_add (4 * j) 0, nI_clamp (by omega)]
        exact hrow.1
      · rw [if_neg d0]
        by_cases d1 : a2 = 1
        · subst d1
          rw [if_pos rfl, if_neg (by decide), if_pos (by decide), h4, show nI (4 * j) + 1 = nI (4 * j + 1) from nI_add (4 * j) 1, nI_clamp (by omega)]
          exact hrow.2.1
        · rw [if_neg d1]
          by_cases d2 : a2 = 2
          · subst d2
            rw [if_pos rfl, if_neg (by decide), if_pos (by decide), h4, show nI (4 * j) + 2 = nI (4 * j + 2) from nI_add (4 * j) 2, nI_clamp (by omega)]
            exact hrow.2.2.1
          · rw [if_neg d2]
            by_cases d3 : a2 = 3
            · subst d3
              rw [if_pos rfl, if_neg (by decide), if_pos (by decide), h4, show nI (4 * j) + 3 = nI (4 * j + 3) from nI_add (4 * j) 3, nI_clamp (by omega)]
              exact hrow.2.2.2
            · rw [if_neg d3]
              by_cases f0 : a2 < 0
              · rw [if_pos f0]
              · rw [if_neg f0]
                by_cases f3 : a2 ≤ 3
                · exfalso
                  obtain ⟨i, hi, rfl⟩ := nI_of f0
                  have : i ≤ 3 := (nI_leI (a := i) (b := 3) hi (by decide)).mp f3
                  rcases (show i = 0 ∨ i = 1 ∨ i = 2 ∨ i = 3 by omega) with rfl | rfl | rfl | rfl
                  · exact d0 rfl
                  · exact d1 rfl
                  · exact d2 rfl
                  · exact d3 rfl
                · rw [if_neg f3]
    · rw [if_neg c1]
      have hge : min k 300 ≤ j := by
        rcases Nat.lt_or_ge j (min k 300) with q | q
        · exact absurd (nI_lt q (by omega)) c1
        · exact q
      by_cases d1 : nI k ≤ nI j
      · rw [if_pos d1]
      · rw [if_neg d1]
        have : ¬ k ≤ j := fun q => d1 (nI_le q hj)
        rw [if_pos (show (299 : Int32) < nI j from nI_lt (a := 299) (b := j) (by omega) hj)]
