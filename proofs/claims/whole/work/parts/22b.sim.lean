theorem no_mt (v : MS) : mt (pX1_noneArmed v) = mt v := by unfold pX1_noneArmed; rw [mt_mg_, mt_ma_]
theorem off_mt (v : MS) (b : Int32) : mt (pX1_goOff v b) = mt v := by rw [goOff_eq, mt_mh_, mt_mf_, mt_me_, mt_mw_, no_mt, vt_mt, lt_mt]
theorem base_mt (v : MS) (b : Int32) : mt (pX1_base v b) = mt v := by unfold pX1_base; rw [vt_mt, lt_mt, no_mt]
theorem comes_mt (v : MS) (r : Int32) : mt (pX1_comes v r) = mt v := by
  unfold pX1_comes
  (repeat' split) <;> simp only [mt_mr_, off_mt, mt_mg_, mt_ma_, vt_mt, lt_mt]
theorem loop_mt : ∀ (k : Nat) (v : MS) (c : Int32), mt (loopM k v c).2 = mt v := by
  intro k
  induction k with
  | zero => intro v c; rfl
  | succ k ih =>
    intro v c
    rw [loopM_s]
    split
    · rfl
    · rw [ih, comes_mt]
theorem settle_mt (v : MS) : mt (pX1_settle v).2 = mt v := by unfold pX1_settle; exact loop_mt 20 v 0
theorem RI_m {n m : Nat} {u : XS} {v : MS} (h : RI n u v) (hle : n ≤ m) : RI m u v := ⟨h.1, h.2.1, h.2.2.mono hle⟩
/-- settling after a change that both sides made -/
theorem SimS {m : Nat} {u u1 : XS} {v1 : MS} (h : RI m u1 v1) (hm : m ≤ 2600000) (hJ : JJ u1) (ht : mt v1 = 0) : SimT (some ((pX0_settle u1).1, (pX0_settle u1).2)) u ((pX1_settle v1).1, (pX1_settle v1).2) := by
  have hs := settle_sim h hm hJ
  exact ⟨by show mt (pX1_settle v1).2 = 0; rw [settle_mt]; exact ht, hs.1.symm, RRi hs.2.1 hs.2.2.1 hs.2.2.2⟩
theorem sense_core {u : XS} {v : MS} {n : Nat} (h : RR u v) (hI : InvX u) (hM : InvM n v) (hn : n ≤ 1000000) (a1 a2 lo hi : Int32) (c0 : ¬ a1 < 0) (c1 : ¬ 6 < a1) (el : loV (Int32.toNatClampNeg a1) = lo) (eh : hiV (Int32.toNatClampNeg a1) = hi) : SimT (pX0_sense u a1 a2) u (pX1_sense_50 v a1 a2 hi lo) := by
  unfold pX0_sense pX1_sense_50
  rw [if_neg (fun z => (im_0.mp z).elim c0 c1), el, eh, if_neg c0, if_neg c1]
  by_cases d0 : a2 < lo
  · rw [if_pos d0, if_pos d0]; exact SimNo h hI hM
  · rw [if_neg d0, if_neg d0]
    by_cases d1 : hi < a2
    · rw [if_pos d1, if_neg (Int32.not_le.mpr d1)]; exact SimNo h hI hM
    · rw [if_neg d1, if_pos (Int32.not_lt.mp d1), good1]
      have r5 : mV (mt_ v 0) = xM u := by rw [mV_mt_, h.1.2.2.2.2.1]
      dsimp only
      rw [r5]
      exact SimS (S_ms (S_mt ⟨h.1, hI, hM⟩ 0) _) (by omega) (JJ_same h.2.1 (by rw [xA_xM_]) (by rw [xn_xM_]) (by rw [xa_xM_]) (by rw [xg_xM_])) (by rw [mt_mV_, mt_mt_])
theorem ss_0 (v : MS) (a2 : Int32) : pX1_sense v 0 a2 = pX1_sense_50 v 0 a2 1000 (-1000) := by
  unfold pX1_sense
  rw [if_pos rfl]
  unfold pX1_sense_16
  rw [if_neg (by decide)]
theorem ss_1 (v : MS) (a2 : Int32) : pX1_sense v 1 a2 = pX1_sense_50 v 1 a2 1000 (-1000) := by
  unfold pX1_sense
  rw [if_neg (by decide), if_pos rfl]
  unfold pX1_sense_16
  rw [if_neg (by decide)]
theorem ss_2 (v : MS) (a2 : Int32) : pX1_sense v 2 a2 = pX1_sense_50 v 2 a2 50000 0 := by
  unfold pX1_sense
  rw [if_neg (by decide), if_neg (by decide)]
  unfold pX1_sense_16
  rw [if_pos (by decide), if_neg (by decide)]
theorem ss_3 (v : MS) (a2 : Int32) : pX1_sense v 3 a2 = pX1_sense_50 v 3 a2 50000 0 := by
  unfold pX1_sense
  rw [if_neg (by decide), if_neg (by decide)]
  unfold pX1_sense_16
  rw [if_pos (by decide), if_neg (by decide)]
theorem ss_4 (v : MS) (a2 : Int32) : pX1_sense v 4 a2 = pX1_sense_50 v 4 a2 600 0 := by
  unfold pX1_sense
  rw [if_neg (by decide), if_neg (by decide)]
  unfold pX1_sense_16
  rw [if_pos (by decide), if_pos (by decide), if_pos rfl]
theorem ss_5 (v : MS) (a2 : Int32) : pX1_sense v 5 a2 = pX1_sense_50 v 5 a2 1 0 := by
  unfold pX1_sense
  rw [if_neg (by decide), if_neg (by decide)]
  unfold pX1_sense_16
  rw [if_pos (by decide), if_pos (by decide), if_neg (by decide)]
theorem ss_6 (v : MS) (a2 : Int32) : pX1_sense v 6 a2 = pX1_sense_50 v 6 a2 1 0 := by
  unfold pX1_sense
  rw [if_neg (by decide), if_neg (by decide)]
  unfold pX1_sense_16
  rw [if_pos (by decide), if_pos (by decide), if_neg (by decide)]
theorem sim_sense {u : XS} {v : MS} {n : Nat} (h : RR u v) (hI : InvX u) (hM : InvM n v) (hn : n ≤ 1000000) (a1 a2 : Int32) : SimT (pX0_sense u a1 a2) u (pX1_sense v a1 a2) := by
  have key : (∀ j1 j2, pX1_sense_50 v a1 a2 j1 j2 = (0, (pX1_good v 0).2)) → pX1_sense v a1 a2 = (0, (pX1_good v 0).2) := by
    intro hk
    unfold pX1_sense pX1_sense_16
    simp only [hk, ite_self]
  by_cases c0 : a1 < 0
  · rw [key (fun _ _ => by unfold pX1_sense_50; rw [if_pos c0])]
    unfold pX0_sense
    rw [if_pos (im_0.mpr (Or.inl c0))]; exact SimNo h hI hM
  · by_cases c1 : 6 < a1
    · rw [key (fun _ _ => by unfold pX1_sense_50; rw [if_neg c0, if_pos c1])]
      unfold pX0_sense
      rw [if_pos (im_0.mpr (Or.inr c1))]; exact SimNo h hI hM
    · obtain ⟨j, hj, e⟩ := nI_of c0
      have h7 : j < 7 := by
        rcases Nat.lt_or_ge j 7 with q | q
        · exact q
        · exact absurd (by rw [e]; exact nI_lt (a := 6) (b := j) q hj) c1
      rcases (show j = 0 ∨ j = 1 ∨ j = 2 ∨ j = 3 ∨ j = 4 ∨ j = 5 ∨ j = 6 by omega) with rfl | rfl | rfl | rfl | rfl | rfl | rfl
      · have e : a1 = 0 := e
        subst e
        rw [ss_0]; exact sense_core h hI hM hn 0 a2 (-1000) 1000 c0 c1 (by decide) (by decide)
      · have e : a1 = 1 := e
        subst e
        rw [ss_1]; exact sense_core h hI hM hn 1 a2 (-1000) 1000 c0 c1 (by decide) (by decide)
      · have e : a1 = 2 := e
        subst e
        rw [ss_2]; exact sense_core h hI hM hn 2 a2 0 50000 c0 c1 (by decide) (by decide)
      · have e : a1 = 3 := e
        subst e
        rw [ss_3]; exact sense_core h hI hM hn 3 a2 0 50000 c0 c1 (by decide) (by decide)
      · have e : a1 = 4 := e
        subst e
        rw [ss_4]; exact sense_core h hI hM hn 4 a2 0 600 c0 c1 (by decide) (by decide)
      · have e : a1 = 5 := e
        subst e
        rw [ss_5]; exact sense_core h hI hM hn 5 a2 0 1 c0 c1 (by decide) (by decide)
      · have e : a1 = 6 := e
        subst e
        rw [ss_6]; exact sense_core h hI hM hn 6 a2 0 1 c0 c1 (by decide) (by decide)
theorem S_ch0 {n : Nat} {u : XS} {v : MS} (h : RI n u v) {y x z : Int32} (hx : x = if y = 0 then 1 else 0) (bx : bz x) (hz : z = md v) : RI n (xS_ u (upd (xS u) 0 y)) (md_ (mb_ v x) z) := by
  obtain ⟨⟨r1, r2, r3, r4, r5, r6, r7, r8, r9, r10, r11, r12, r13, r14, r15, r16, r17⟩, hX, hM⟩ := h
  refine ⟨⟨?_, ?_, ?_, ?_, ?_, ?_, ?_, ?_, ?_, ?_, ?_, ?_, ?_, ?_, ?_, ?_, ?_⟩, hX.sS _, (hM.sb bx).sd (by rw [hz]; exact hM.2.2.2.2.1)⟩
  · (try simp only [ml_mt_, ml_ml_, ml_mv_, ml_ma_, ml_mg_, ml_me_, ml_mw_, ml_mb_, ml_md_, ml_mr_, ml_mV_, ml_mf_, ml_mh_, ml_mk_, ml_mR_, xA_xA_, xA_xF_, xA_xM_, xA_xS_, xA_xl_, xA_xn_, xA_xa_, xA_xg_, xA_xe_, xA_xw_, xA_xC_, xA_xc_]); exact r1
  · (try simp only [mv_mt_, mv_ml_, mv_mv_, mv_ma_, mv_mg_, mv_me_, mv_mw_, mv_mb_, mv_md_, mv_mr_, mv_mV_, mv_mf_, mv_mh_, mv_mk_, mv_mR_, xA_xA_, xA_xF_, xA_xM_, xA_xS_, xA_xl_, xA_xn_, xA_xa_, xA_xg_, xA_xe_, xA_xw_, xA_xC_, xA_xc_]); exact r2
  · (try simp only [mf_mt_, mf_ml_, mf_mv_, mf_ma_, mf_mg_, mf_me_, mf_mw_, mf_mb_, mf_md_, mf_mr_, mf_mV_, mf_mf_, mf_mh_, mf_mk_, mf_mR_, xF_xA_, xF_xF_, xF_xM_, xF_xS_, xF_xl_, xF_xn_, xF_xa_, xF_xg_, xF_xe_, xF_xw_, xF_xC_, xF_xc_]); exact r3
  · (try simp only [mh_mt_, mh_ml_, mh_mv_, mh_ma_, mh_mg_, mh_me_, mh_mw_, mh_mb_, mh_md_, mh_mr_, mh_mV_, mh_mf_, mh_mh_, mh_mk_, mh_mR_, xF_xA_, xF_xF_, xF_xM_, xF_xS_, xF_xl_, xF_xn_, xF_xa_, xF_xg_, xF_xe_, xF_xw_, xF_xC_, xF_xc_]); exact r4
  · (try simp only [mV_mt_, mV_ml_, mV_mv_, mV_ma_, mV_mg_, mV_me_, mV_mw_, mV_mb_, mV_md_, mV_mr_, mV_mV_, mV_mf_, mV_mh_, mV_mk_, mV_mR_, xM_xA_, xM_xF_, xM_xM_, xM_xS_, xM_xl_, xM_xn_, xM_xa_, xM_xg_, xM_xe_, xM_xw_, xM_xC_, xM_xc_]); exact r5
  · rw [mb_md_, mb_mb_, xS_xS_, pk_us]; exact hx
  · rw [md_md_, xS_xS_, pk_un (by decide)]; exact hz.trans r7
  · (try simp only [mr_mt_, mr_ml_, mr_mv_, mr_ma_, mr_mg_, mr_me_, mr_mw_, mr_mb_, mr_md_, mr_mr_, mr_mV_, mr_mf_, mr_mh_, mr_mk_, mr_mR_, xl_xA_, xl_xF_, xl_xM_, xl_xS_, xl_xl_, xl_xn_, xl_xa_, xl_xg_, xl_xe_, xl_xw_, xl_xC_, xl_xc_]); exact r8
  · (try simp only [me_mt_, me_ml_, me_mv_, me_ma_, me_mg_, me_me_, me_mw_, me_mb_, me_md_, me_mr_, me_mV_, me_mf_, me_mh_, me_mk_, me_mR_, xe_xA_, xe_xF_, xe_xM_, xe_xS_, xe_xl_, xe_xn_, xe_xa_, xe_xg_, xe_xe_, xe_xw_, xe_xC_, xe_xc_]); exact r9
  · (try simp only [mw_mt_, mw_ml_, mw_mv_, mw_ma_, mw_mg_, mw_me_, mw_mw_, mw_mb_, mw_md_, mw_mr_, mw_mV_, mw_mf_, mw_mh_, mw_mk_, mw_mR_, xw_xA_, xw_xF_, xw_xM_, xw_xS_, xw_xl_, xw_xn_, xw_xa_, xw_xg_, xw_xe_, xw_xw_, xw_xC_, xw_xc_]); exact r10
  · (try simp only [mg_mt_, mg_ml_, mg_mv_, mg_ma_, mg_mg_, mg_me_, mg_mw_, mg_mb_, mg_md_, mg_mr_, mg_mV_, mg_mf_, mg_mh_, mg_mk_, mg_mR_, xg_xA_, xg_xF_, xg_xM_, xg_xS_, xg_xl_, xg_xn_, xg_xa_, xg_xg_, xg_xe_, xg_xw_, xg_xC_, xg_xc_]); exact r11
  · refine Eq.trans (b := ma v) (by (try simp only [ma_mt_, ma_ml_, ma_mv_, ma_ma_, ma_mg_, ma_me_, ma_mw_, ma_mb_, ma_md_, ma_mr_, ma_mV_, ma_mf_, ma_mh_, ma_mk_, ma_mR_, xn_xA_, xn_xF_, xn_xM_, xn_xS_, xn_xl_, xn_xn_, xn_xa_, xn_xg_, xn_xe_, xn_xw_, xn_xC_, xn_xc_, xa_xA_, xa_xF_, xa_xM_, xa_xS_, xa_xl_, xa_xn_, xa_xa_, xa_xg_, xa_xe_, xa_xw_, xa_xC_, xa_xc_])) (r12.trans (arm_c (by (try simp only [ma_mt_, ma_ml_, ma_mv_, ma_ma_, ma_mg_, ma_me_, ma_mw_, ma_mb_, ma_md_, ma_mr_, ma_mV_, ma_mf_, ma_mh_, ma_mk_, ma_mR_, xn_xA_, xn_xF_, xn_xM_, xn_xS_, xn_xl_, xn_xn_, xn_xa_, xn_xg_, xn_xe_, xn_xw_, xn_xC_, xn_xc_, xa_xA_, xa_xF_, xa_xM_, xa_xS_, xa_xl_, xa_xn_, xa_xa_, xa_xg_, xa_xe_, xa_xw_, xa_xC_, xa_xc_])) (by (try simp only [ma_mt_, ma_ml_, ma_mv_, ma_ma_, ma_mg_, ma_me_, ma_mw_, ma_mb_, ma_md_, ma_mr_, ma_mV_, ma_mf_, ma_mh_, ma_mk_, ma_mR_, xn_xA_, xn_xF_, xn_xM_, xn_xS_, xn_xl_, xn_xn_, xn_xa_, xn_xg_, xn_xe_, xn_xw_, xn_xC_, xn_xc_, xa_xA_, xa_xF_, xa_xM_, xa_xS_, xa_xl_, xa_xn_, xa_xa_, xa_xg_, xa_xe_, xa_xw_, xa_xC_, xa_xc_]))))
  · (try simp only [xA_xA_, xA_xF_, xA_xM_, xA_xS_, xA_xl_, xA_xn_, xA_xa_, xA_xg_, xA_xe_, xA_xw_, xA_xC_, xA_xc_]); exact r13
  · (try simp only [xA_xA_, xA_xF_, xA_xM_, xA_xS_, xA_xl_, xA_xn_, xA_xa_, xA_xg_, xA_xe_, xA_xw_, xA_xC_, xA_xc_]); exact r14
  · (try simp only [xF_xA_, xF_xF_, xF_xM_, xF_xS_, xF_xl_, xF_xn_, xF_xa_, xF_xg_, xF_xe_, xF_xw_, xF_xC_, xF_xc_]); exact r15
  · (try simp only [xF_xA_, xF_xF_, xF_xM_, xF_xS_, xF_xl_, xF_xn_, xF_xa_, xF_xg_, xF_xe_, xF_xw_, xF_xC_, xF_xc_]); exact r16
  · unfold LG; simp only [mk_mt_, mk_ml_, mk_mv_, mk_ma_, mk_mg_, mk_me_, mk_mw_, mk_mb_, mk_md_, mk_mr_, mk_mV_, mk_mf_, mk_mh_, mk_mk_, mk_mR_, mR_mt_, mR_ml_, mR_mv_, mR_ma_, mR_mg_, mR_me_, mR_mw_, mR_mb_, mR_md_, mR_mr_, mR_mV_, mR_mf_, mR_mh_, mR_mk_, mR_mR_, xc_xA_, xc_xF_, xc_xM_, xc_xS_, xc_xl_, xc_xn_, xc_xa_, xc_xg_, xc_xe_, xc_xw_, xc_xC_, xc_xc_, xC_xA_, xC_xF_, xC_xM_, xC_xS_, xC_xl_, xC_xn_, xC_xa_, xC_xg_, xC_xe_, xC_xw_, xC_xC_, xC_xc_]; exact r17
theorem S_ch1 {n : Nat} {u : XS} {v : MS} (h : RI n u v) {y x z : Int32} (hx : x = if y = 0 then 1 else 0) (bx : bz x) (hz : z = mb v) : RI n (xS_ u (upd (xS u) 1 y)) (md_ (mb_ v z) x) := by
  obtain ⟨⟨r1, r2, r3, r4, r5, r6, r7, r8, r9, r10, r11, r12, r13, r14, r15, r16, r17⟩, hX, hM⟩ := h
  refine ⟨⟨?_, ?_, ?_, ?_, ?_, ?_, ?_, ?_, ?_, ?_, ?_, ?_, ?_, ?_, ?_, ?_, ?_⟩, hX.sS _, (hM.sb (by rw [hz]; exact hM.2.2.2.1)).sd bx⟩
  · (try simp only [ml_mt_, ml_ml_, ml_mv_, ml_ma_, ml_mg_, ml_me_, ml_mw_, ml_mb_, ml_md_, ml_mr_, ml_mV_, ml_mf_, ml_mh_, ml_mk_, ml_mR_, xA_xA_, xA_xF_, xA_xM_, xA_xS_, xA_xl_, xA_xn_, xA_xa_, xA_xg_, xA_xe_, xA_xw_, xA_xC_, xA_xc_]); exact r1
  · (try simp only [mv_mt_, mv_ml_, mv_mv_, mv_ma_, mv_mg_, mv_me_, mv_mw_, mv_mb_, mv_md_, mv_mr_, mv_mV_, mv_mf_, mv_mh_, mv_mk_, mv_mR_, xA_xA_, xA_xF_, xA_xM_, xA_xS_, xA_xl_, xA_xn_, xA_xa_, xA_xg_, xA_xe_, xA_xw_, xA_xC_, xA_xc_]); exact r2
  · (try simp only [mf_mt_, mf_ml_, mf_mv_, mf_ma_, mf_mg_, mf_me_, mf_mw_, mf_mb_, mf_md_, mf_mr_, mf_mV_, mf_mf_, mf_mh_, mf_mk_, mf_mR_, xF_xA_, xF_xF_, xF_xM_, xF_xS_, xF_xl_, xF_xn_, xF_xa_, xF_xg_, xF_xe_, xF_xw_, xF_xC_, xF_xc_]); exact r3
  · (try simp only [mh_mt_, mh_ml_, mh_mv_, mh_ma_, mh_mg_, mh_me_, mh_mw_, mh_mb_, mh_md_, mh_mr_, mh_mV_, mh_mf_, mh_mh_, mh_mk_, mh_mR_, xF_xA_, xF_xF_, xF_xM_, xF_xS_, xF_xl_, xF_xn_, xF_xa_, xF_xg_, xF_xe_, xF_xw_, xF_xC_, xF_xc_]); exact r4
  · (try simp only [mV_mt_, mV_ml_, mV_mv_, mV_ma_, mV_mg_, mV_me_, mV_mw_, mV_mb_, mV_md_, mV_mr_, mV_mV_, mV_mf_, mV_mh_, mV_mk_, mV_mR_, xM_xA_, xM_xF_, xM_xM_, xM_xS_, xM_xl_, xM_xn_, xM_xa_, xM_xg_, xM_xe_, xM_xw_, xM_xC_, xM_xc_]); exact r5
  · rw [mb_md_, mb_mb_, xS_xS_, pk_un (by decide)]; exact hz.trans r6
  · rw [md_md_, xS_xS_, pk_us]; exact hx
  · (try simp only [mr_mt_, mr_ml_, mr_mv_, mr_ma_, mr_mg_, mr_me_, mr_mw_, mr_mb_, mr_md_, mr_mr_, mr_mV_, mr_mf_, mr_mh_, mr_mk_, mr_mR_, xl_xA_, xl_xF_, xl_xM_, xl_xS_, xl_xl_, xl_xn_, xl_xa_, xl_xg_, xl_xe_, xl_xw_, xl_xC_, xl_xc_]); exact r8
  · (try simp only [me_mt_, me_ml_, me_mv_, me_ma_, me_mg_, me_me_, me_mw_, me_mb_, me_md_, me_mr_, me_mV_, me_mf_, me_mh_, me_mk_, me_mR_, xe_xA_, xe_xF_, xe_xM_, xe_xS_, xe_xl_, xe_xn_, xe_xa_, xe_xg_, xe_xe_, xe_xw_, xe_xC_, xe_xc_]); exact r9
  · (try simp only [mw_mt_, mw_ml_, mw_mv_, mw_ma_, mw_mg_, mw_me_, mw_mw_, mw_mb_, mw_md_, mw_mr_, mw_mV_, mw_mf_, mw_mh_, mw_mk_, mw_mR_, xw_xA_, xw_xF_, xw_xM_, xw_xS_, xw_xl_, xw_xn_, xw_xa_, xw_xg_, xw_xe_, xw_xw_, xw_xC_, xw_xc_]); exact r10
  · (try simp only [mg_mt_, mg_ml_, mg_mv_, mg_ma_, mg_mg_, mg_me_, mg_mw_, mg_mb_, mg_md_, mg_mr_, mg_mV_, mg_mf_, mg_mh_, mg_mk_, mg_mR_, xg_xA_, xg_xF_, xg_xM_, xg_xS_, xg_xl_, xg_xn_, xg_xa_, xg_xg_, xg_xe_, xg_xw_, xg_xC_, xg_xc_]); exact r11
  · refine Eq.trans (b := ma v) (by (try simp only [ma_mt_, ma_ml_, ma_mv_, ma_ma_, ma_mg_, ma_me_, ma_mw_, ma_mb_, ma_md_, ma_mr_, ma_mV_, ma_mf_, ma_mh_, ma_mk_, ma_mR_, xn_xA_, xn_xF_, xn_xM_, xn_xS_, xn_xl_, xn_xn_, xn_xa_, xn_xg_, xn_xe_, xn_xw_, xn_xC_, xn_xc_, xa_xA_, xa_xF_, xa_xM_, xa_xS_, xa_xl_, xa_xn_, xa_xa_, xa_xg_, xa_xe_, xa_xw_, xa_xC_, xa_xc_])) (r12.trans (arm_c (by (try simp only [ma_mt_, ma_ml_, ma_mv_, ma_ma_, ma_mg_, ma_me_, ma_mw_, ma_mb_, ma_md_, ma_mr_, ma_mV_, ma_mf_, ma_mh_, ma_mk_, ma_mR_, xn_xA_, xn_xF_, xn_xM_, xn_xS_, xn_xl_, xn_xn_, xn_xa_, xn_xg_, xn_xe_, xn_xw_, xn_xC_, xn_xc_, xa_xA_, xa_xF_, xa_xM_, xa_xS_, xa_xl_, xa_xn_, xa_xa_, xa_xg_, xa_xe_, xa_xw_, xa_xC_, xa_xc_])) (by (try simp only [ma_mt_, ma_ml_, ma_mv_, ma_ma_, ma_mg_, ma_me_, ma_mw_, ma_mb_, ma_md_, ma_mr_, ma_mV_, ma_mf_, ma_mh_, ma_mk_, ma_mR_, xn_xA_, xn_xF_, xn_xM_, xn_xS_, xn_xl_, xn_xn_, xn_xa_, xn_xg_, xn_xe_, xn_xw_, xn_xC_, xn_xc_, xa_xA_, xa_xF_, xa_xM_, xa_xS_, xa_xl_, xa_xn_, xa_xa_, xa_xg_, xa_xe_, xa_xw_, xa_xC_, xa_xc_]))))
  · (try simp only [xA_xA_, xA_xF_, xA_xM_, xA_xS_, xA_xl_, xA_xn_, xA_xa_, xA_xg_, xA_xe_, xA_xw_, xA_xC_, xA_xc_]); exact r13
  · (try simp only [xA_xA_, xA_xF_, xA_xM_, xA_xS_, xA_xl_, xA_xn_, xA_xa_, xA_xg_, xA_xe_, xA_xw_, xA_xC_, xA_xc_]); exact r14
  · (try simp only [xF_xA_, xF_xF_, xF_xM_, xF_xS_, xF_xl_, xF_xn_, xF_xa_, xF_xg_, xF_xe_, xF_xw_, xF_xC_, xF_xc_]); exact r15
  · (try simp only [xF_xA_, xF_xF_, xF_xM_, xF_xS_, xF_xl_, xF_xn_, xF_xa_, xF_xg_, xF_xe_, xF_xw_, xF_xC_, xF_xc_]); exact r16
  · unfold LG; simp only [mk_mt_, mk_ml_, mk_mv_, mk_ma_, mk_mg_, mk_me_, mk_mw_, mk_mb_, mk_md_, mk_mr_, mk_mV_, mk_mf_, mk_mh_, mk_mk_, mk_mR_, mR_mt_, mR_ml_, mR_mv_, mR_ma_, mR_mg_, mR_me_, mR_mw_, mR_mb_, mR_md_, mR_mr_, mR_mV_, mR_mf_, mR_mh_, mR_mk_, mR_mR_, xc_xA_, xc_xF_, xc_xM_, xc_xS_, xc_xl_, xc_xn_, xc_xa_, xc_xg_, xc_xe_, xc_xw_, xc_xC_, xc_xc_, xC_xA_, xC_xF_, xC_xM_, xC_xS_, xC_xl_, xC_xn_, xC_xa_, xC_xg_, xC_xe_, xC_xw_, xC_xC_, xC_xc_]; exact r17
theorem sim_channel {u : XS} {v : MS} {n : Nat} (h : RR u v) (hI : InvX u) (hM : InvM n v) (hn : n ≤ 1000000) (a1 a2 : Int32) (hb : bz a2) : SimT (pX0_channel u a1 a2) u (pX1_channel v a1 a2) := by
  have hr := S_mt (⟨h.1, hI, hM⟩ : RI n u v) 0
  have ht : ∀ x z : Int32, mt (md_ (mb_ (mt_ v 0) x) z) = 0 := fun x z => by rw [mt_md_, mt_mb_, mt_mt_]
  unfold pX0_channel pX1_channel
  rw [bz_v hb]
  by_cases c0 : a1 = 0
  · subst c0
    rw [if_pos rfl, if_pos rfl, if_pos rfl, good1]
    unfold pX1_channel_44 pX1_channel_69
    rw [if_neg (show ¬ (0 : Int32) = 1 by decide), if_neg (show ¬ (0 : Int32) = 1 by decide)]
    dsimp only
    by_cases d : a2 = 0
    · rw [if_pos d]
      exact SimS (S_ch0 hr (by rw [if_pos d]) bz1 (by rw [md_mb_])) (by omega) (JJ_same h.2.1 (by rw [xA_xS_]) (by rw [xn_xS_]) (by rw [xa_xS_]) (by rw [xg_xS_])) (ht _ _)
    · rw [if_neg d]
      exact SimS (S_ch0 hr (by rw [if_neg d]) bz0 (by rw [md_mb_])) (by omega) (JJ_same h.2.1 (by rw [xA_xS_]) (by rw [xn_xS_]) (by rw [xa_xS_]) (by rw [xg_xS_])) (ht _ _)
  · rw [if_neg c0, if_neg c0]
    by_cases c1 : a1 = 1
    · subst c1
      rw [if_pos rfl, if_pos rfl, if_neg (show ¬ (1 : Int32) = 0 by decide), good1]
      unfold pX1_channel_44 pX1_channel_69
      rw [if_pos rfl]
      dsimp only
      by_cases d : a2 = 0
      · rw [if_pos d]
        exact SimS (S_ch1 hr (by rw [if_pos d]) bz1 rfl) (by omega) (JJ_same h.2.1 (by rw [xA_xS_]) (by rw [xn_xS_]) (by rw [xa_xS_]) (by rw [xg_xS_])) (ht _ _)
      · rw [if_neg d]
        exact SimS (S_ch1 hr (by rw [if_neg d]) bz0 rfl) (by omega) (JJ_same h.2.1 (by rw [xA_xS_]) (by rw [xn_xS_]) (by rw [xa_xS_]) (by rw [xg_xS_])) (ht _ _)
    · rw [if_neg c1, if_neg c1]; exact SimNo h hI hM
/-- on, if off, on both sides -/
def onM (v : MS) : MS := if ml v = 0 then pX1_base v 0 else v
theorem onM_mt (v : MS) : mt (onM v) = mt v := by
  unfold onM; split
  · rw [base_mt]
  · rfl
theorem tb_A1 (u : XS) : xA (pX0_goToBase u) 1 = 1 := by unfold pX0_goToBase; rw [da_xA, c1_A1]
theorem S_on {n : Nat} {u : XS} {v : MS} (h : RI n u v) (hn : n ≤ 2800000) (hJ : JJ u) (hG : G64 u) : RI (n + 2) (pX0_turnOnIfOff u) (onM v) ∧ JJ (pX0_turnOnIfOff u) ∧ G64 (pX0_turnOnIfOff u) := by
  unfold pX0_turnOnIfOff onM
  by_cases q : xA u 0 = 0
  · rw [if_pos ((on_0 u).mpr q), if_pos (by rw [h.1.1]; exact q)]
    exact ⟨S_base h hn, JJ_base u, fun z => absurd z (by rw [tb_A1]; decide)⟩
  · rw [if_neg (fun z => q ((on_0 u).mp z)), if_neg (by rw [h.1.1]; exact q)]
    exact ⟨RI_m h (by omega), hJ, hG⟩
theorem JJ_e {u : XS} (h : JJ u) (x : Int32) : JJ (xe_ u x) := JJ_same h (by rw [xA_xe_]) (by rw [xn_xe_]) (by rw [xa_xe_]) (by rw [xg_xe_])
theorem pr2 {a : Int32} {X : XS} {Y : MS} (h : RR X Y) : ((a, X) : Int32 × XS).1 = ((a, Y) : Int32 × MS).1 ∧ RR ((a, X) : Int32 × XS).2 ((a, Y) : Int32 × MS).2 := ⟨rfl, h⟩
theorem eng_69 (w : MS) : (if ml w = 0 then pX1_engage_69 (pX1_base w 0) else pX1_engage_69 w) = (1, (pX1_settle (me_ (onM w) 1)).2) := by
  unfold onM pX1_engage_69
  by_cases z : ml w = 0
  · rw [if_pos z, if_pos z]
  · rw [if_neg z, if_neg z]
theorem sim_engage {u : XS} {v : MS} {n : Nat} (h : RR u v) (hI : InvX u) (hM : InvM n v) (hn : n ≤ 1000000) : (pX0_engage u).1 = (pX1_engage v).1 ∧ RR (pX0_engage u).2 (pX1_engage v).2 := by
  have hr := S_mt (⟨h.1, hI, hM⟩ : RI n u v) 0
  have hR : RR u (mt_ v 0) := RRm h hI hM 0
  generalize hw : mt_ v 0 = w at hr hR
  have e1 : pX1_engage v = if ¬ me w = 0 then (0, w) else if (¬ mb w = 0 ∧ ¬ md w = 0) then (0, w) else pX1_engage_26 w := by
    unfold pX1_engage
    rw [hw]
    by_cases c0 : me w = 0
    · rw [if_pos c0, if_neg (show ¬ ¬ me w = 0 from fun z => z c0)]
      by_cases c1 : mb w = 0
      · rw [if_pos c1, if_neg (show ¬ (¬ mb w = 0 ∧ ¬ md w = 0) from fun z => z.1 c1)]
      · rw [if_neg c1]
        by_cases c2 : md w = 0
        · rw [if_pos c2, if_neg (show ¬ (¬ mb w = 0 ∧ ¬ md w = 0) from fun z => z.2 c2)]
        · rw [if_neg c2, if_pos ⟨c1, c2⟩]
    · rw [if_neg c0, if_pos c0]
  have no : (0 : Int32) = (0 : Int32) ∧ RR u w := ⟨rfl, hR⟩
  rw [e1]
  unfold pX0_engage
  have ee : me w = xe u := hr.1.2.2.2.2.2.2.2.2.1
  by_cases c0 : xe u = 0
  · rw [if_pos c0, if_neg (show ¬ ¬ me w = 0 from fun z => z (by rw [ee]; exact c0))]
    by_cases c1 : pX0_isAnyChannelSound u = 0
    · rw [if_pos c1, if_pos ((any_iff hr.1).mp c1)]; exact no
    · rw [if_neg c1, if_neg (fun z => c1 ((any_iff hr.1).mpr z))]
      unfold pX1_engage_26 pX0_isAroundAnywhere
      rw [tn0, tn1]
      by_cases c2 : xA u 0 = 5
      · rw [if_pos c2, if_neg (show ¬ (1 : Int32) = 0 by decide), if_pos (show ml w = 5 by rw [hr.1.1]; exact c2)]; exact no
      · rw [if_neg c2, if_neg (show ¬ ml w = 5 by rw [hr.1.1]; exact c2)]
        by_cases c3 : xA u 1 = 7
        · rw [if_pos c3, if_neg (show ¬ (1 : Int32) = 0 by decide), if_pos (show mv w = 7 by rw [hr.1.2.1]; exact c3)]; exact no
        · rw [if_neg c3, if_pos rfl, if_neg (show ¬ mv w = 7 by rw [hr.1.2.1]; exact c3)]
          by_cases c4 : pX0_isTooFast u = 0
          · rw [if_pos c4, if_pos ((tf_iff hr.1).mp c4), eng_69]
            have ho := S_on hr (by omega) h.2.1 h.2.2
            have hs := settle_sim (S_en ho.1) (by omega) (JJ_e ho.2.1 1)
            exact pr2 (RRi hs.2.1 hs.2.2.1 hs.2.2.2)
          · rw [if_neg c4, if_neg (fun z => c4 ((tf_iff hr.1).mpr z))]; exact no
  · rw [if_neg c0, if_pos (show ¬ me w = 0 by rw [ee]; exact c0)]; exact no
