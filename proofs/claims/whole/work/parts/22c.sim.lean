def dn (a f : Int32) : Int32 := if a < f then f - a else 0
def dm (b f : Int32) : Int32 := if f ≤ b then 0 else f - b
def stX (p : Int32) (w : XS) (a : Int32) : XS := xF_ w (upd (xF w) (Int32.toNatClampNeg p) (if a < xF w (Int32.toNatClampNeg p) then xF w (Int32.toNatClampNeg p) - a else 0))
theorem step_X (u : XS) (a1 : Int32) (c1 : 1 ≤ a1) : pX0_step u a1 = (if xF (stX 0 u a1) (Int32.toNatClampNeg 0) ≤ 0 then (if xF (stX 1 (stX 0 u a1) a1) (Int32.toNatClampNeg 1) ≤ 0 then some (0, stX 1 (stX 0 u a1) a1) else some (1, stX 1 (stX 0 u a1) a1)) else (if xF (stX 1 (stX 0 u a1) a1) (Int32.toNatClampNeg 1) ≤ 0 then some (1, stX 1 (stX 0 u a1) a1) else some (2, stX 1 (stX 0 u a1) a1))) := by
  by_cases c : a1 < xF u (Int32.toNatClampNeg 0)
  · have hw1 : stX 0 u a1 = xF_ u (upd (xF u) (Int32.toNatClampNeg 0) (xF u (Int32.toNatClampNeg 0) - a1)) := by unfold stX; rw [if_pos c]
    rw [hw1]
    by_cases d : a1 < xF (xF_ u (upd (xF u) (Int32.toNatClampNeg 0) (xF u (Int32.toNatClampNeg 0) - a1))) (Int32.toNatClampNeg 1)
    · have hw2 : stX 1 (xF_ u (upd (xF u) (Int32.toNatClampNeg 0) (xF u (Int32.toNatClampNeg 0) - a1))) a1 = xF_ (xF_ u (upd (xF u) (Int32.toNatClampNeg 0) (xF u (Int32.toNatClampNeg 0) - a1))) (upd (xF (xF_ u (upd (xF u) (Int32.toNatClampNeg 0) (xF u (Int32.toNatClampNeg 0) - a1)))) (Int32.toNatClampNeg 1) (xF (xF_ u (upd (xF u) (Int32.toNatClampNeg 0) (xF u (Int32.toNatClampNeg 0) - a1))) (Int32.toNatClampNeg 1) - a1)) := by unfold stX; rw [if_pos d]
      rw [hw2]
      unfold pX0_step
      by_cases e : xF (xF_ u (upd (xF u) (Int32.toNatClampNeg 0) (xF u (Int32.toNatClampNeg 0) - a1))) (Int32.toNatClampNeg 0) ≤ 0
      · rw [if_pos c1, if_pos c, if_pos e, if_pos e, if_pos d]
      · rw [if_pos c1, if_pos c, if_neg e, if_neg e, if_pos d]
    · have hw2 : stX 1 (xF_ u (upd (xF u) (Int32.toNatClampNeg 0) (xF u (Int32.toNatClampNeg 0) - a1))) a1 = xF_ (xF_ u (upd (xF u) (Int32.toNatClampNeg 0) (xF u (Int32.toNatClampNeg 0) - a1))) (upd (xF (xF_ u (upd (xF u) (Int32.toNatClampNeg 0) (xF u (Int32.toNatClampNeg 0) - a1)))) (Int32.toNatClampNeg 1) 0) := by unfold stX; rw [if_neg d]
      rw [hw2]
      unfold pX0_step
      by_cases e : xF (xF_ u (upd (xF u) (Int32.toNatClampNeg 0) (xF u (Int32.toNatClampNeg 0) - a1))) (Int32.toNatClampNeg 0) ≤ 0
      · rw [if_pos c1, if_pos c, if_pos e, if_pos e, if_neg d]
      · rw [if_pos c1, if_pos c, if_neg e, if_neg e, if_neg d]
  · have hw1 : stX 0 u a1 = xF_ u (upd (xF u) (Int32.toNatClampNeg 0) 0) := by unfold stX; rw [if_neg c]
    rw [hw1]
    by_cases d : a1 < xF (xF_ u (upd (xF u) (Int32.toNatClampNeg 0) 0)) (Int32.toNatClampNeg 1)
    · have hw2 : stX 1 (xF_ u (upd (xF u) (Int32.toNatClampNeg 0) 0)) a1 = xF_ (xF_ u (upd (xF u) (Int32.toNatClampNeg 0) 0)) (upd (xF (xF_ u (upd (xF u) (Int32.toNatClampNeg 0) 0))) (Int32.toNatClampNeg 1) (xF (xF_ u (upd (xF u) (Int32.toNatClampNeg 0) 0)) (Int32.toNatClampNeg 1) - a1)) := by unfold stX; rw [if_pos d]
      rw [hw2]
      unfold pX0_step
      by_cases e : xF (xF_ u (upd (xF u) (Int32.toNatClampNeg 0) 0)) (Int32.toNatClampNeg 0) ≤ 0
      · rw [if_pos c1, if_neg c, if_pos e, if_pos e, if_pos d]
      · rw [if_pos c1, if_neg c, if_neg e, if_neg e, if_pos d]
    · have hw2 : stX 1 (xF_ u (upd (xF u) (Int32.toNatClampNeg 0) 0)) a1 = xF_ (xF_ u (upd (xF u) (Int32.toNatClampNeg 0) 0)) (upd (xF (xF_ u (upd (xF u) (Int32.toNatClampNeg 0) 0))) (Int32.toNatClampNeg 1) 0) := by unfold stX; rw [if_neg d]
      rw [hw2]
      unfold pX0_step
      by_cases e : xF (xF_ u (upd (xF u) (Int32.toNatClampNeg 0) 0)) (Int32.toNatClampNeg 0) ≤ 0
      · rw [if_pos c1, if_neg c, if_pos e, if_pos e, if_neg d]
      · rw [if_pos c1, if_neg c, if_neg e, if_neg e, if_neg d]
theorem xF2 (u : XS) (f g : Nat → Int32) : xF_ (xF_ u f) g = xF_ u g := XS_ext (by simp only [xA_xA_, xA_xF_, xA_xM_, xA_xS_, xA_xl_, xA_xn_, xA_xa_, xA_xg_, xA_xe_, xA_xw_, xA_xC_, xA_xc_]) (by simp only [xF_xA_, xF_xF_, xF_xM_, xF_xS_, xF_xl_, xF_xn_, xF_xa_, xF_xg_, xF_xe_, xF_xw_, xF_xC_, xF_xc_]) (by simp only [xM_xA_, xM_xF_, xM_xM_, xM_xS_, xM_xl_, xM_xn_, xM_xa_, xM_xg_, xM_xe_, xM_xw_, xM_xC_, xM_xc_]) (by simp only [xS_xA_, xS_xF_, xS_xM_, xS_xS_, xS_xl_, xS_xn_, xS_xa_, xS_xg_, xS_xe_, xS_xw_, xS_xC_, xS_xc_]) (by simp only [xl_xA_, xl_xF_, xl_xM_, xl_xS_, xl_xl_, xl_xn_, xl_xa_, xl_xg_, xl_xe_, xl_xw_, xl_xC_, xl_xc_]) (by simp only [xn_xA_, xn_xF_, xn_xM_, xn_xS_, xn_xl_, xn_xn_, xn_xa_, xn_xg_, xn_xe_, xn_xw_, xn_xC_, xn_xc_]) (by simp only [xa_xA_, xa_xF_, xa_xM_, xa_xS_, xa_xl_, xa_xn_, xa_xa_, xa_xg_, xa_xe_, xa_xw_, xa_xC_, xa_xc_]) (by simp only [xg_xA_, xg_xF_, xg_xM_, xg_xS_, xg_xl_, xg_xn_, xg_xa_, xg_xg_, xg_xe_, xg_xw_, xg_xC_, xg_xc_]) (by simp only [xe_xA_, xe_xF_, xe_xM_, xe_xS_, xe_xl_, xe_xn_, xe_xa_, xe_xg_, xe_xe_, xe_xw_, xe_xC_, xe_xc_]) (by simp only [xw_xA_, xw_xF_, xw_xM_, xw_xS_, xw_xl_, xw_xn_, xw_xa_, xw_xg_, xw_xe_, xw_xw_, xw_xC_, xw_xc_]) (by simp only [xC_xA_, xC_xF_, xC_xM_, xC_xS_, xC_xl_, xC_xn_, xC_xa_, xC_xg_, xC_xe_, xC_xw_, xC_xC_, xC_xc_]) (by simp only [xc_xA_, xc_xF_, xc_xM_, xc_xS_, xc_xl_, xc_xn_, xc_xa_, xc_xg_, xc_xe_, xc_xw_, xc_xC_, xc_xc_])
theorem st_eq (u : XS) (a1 : Int32) : stX 1 (stX 0 u a1) a1 = xF_ u (upd (upd (xF u) 0 (dn a1 (xF u 0))) 1 (dn a1 (xF u 1))) := by
  unfold stX dn
  rw [tn0, tn1, xF_xF_, xF2, pk_un (by decide)]
theorem st_0 (u : XS) (a1 : Int32) : xF (stX 0 u a1) (Int32.toNatClampNeg 0) = dn a1 (xF u 0) := by
  unfold stX dn
  rw [tn0, xF_xF_, pk_us]
theorem st_1 (u : XS) (a1 : Int32) : xF (stX 1 (stX 0 u a1) a1) (Int32.toNatClampNeg 1) = dn a1 (xF u 1) := by
  rw [st_eq, tn1, xF_xF_, pk_us]
def cnt (x y : Int32) : Int32 := if x ≤ 0 then (if y ≤ 0 then 0 else 1) else (if y ≤ 0 then 1 else 2)
theorem step_X2 (u : XS) (a1 : Int32) (c1 : 1 ≤ a1) : pX0_step u a1 = some (cnt (dn a1 (xF u 0)) (dn a1 (xF u 1)), xF_ u (upd (upd (xF u) 0 (dn a1 (xF u 0))) 1 (dn a1 (xF u 1)))) := by
  rw [step_X u a1 c1, st_0, st_1, st_eq]
  unfold cnt
  by_cases e : dn a1 (xF u 0) ≤ 0
  · rw [if_pos e, if_pos e]
    by_cases f : dn a1 (xF u 1) ≤ 0
    · rw [if_pos f, if_pos f]
    · rw [if_neg f, if_neg f]
  · rw [if_neg e, if_neg e]
    by_cases f : dn a1 (xF u 1) ≤ 0
    · rw [if_pos f, if_pos f]
    · rw [if_neg f, if_neg f]
theorem step_M1 (w : MS) (a1 : Int32) : ∀ (x b : Int32), pX1_step_73 w a1 x b = (cnt (mf w) x, mh_ w x) := by
  intro x b
  unfold pX1_step_73 pX1_step_88 pX1_step_100 cnt
  rw [mf_mh_, mh_mh_]
  by_cases e : mf w ≤ 0
  · rw [if_pos e, if_pos e]
    by_cases f : x ≤ 0
    · rw [if_pos f, if_pos f]; rw [show (0 : Int32) + 0 = 0 by decide]
    · rw [if_neg f, if_neg f]; rw [show (0 : Int32) + 1 = 1 by decide]
  · rw [if_neg e, if_neg e]
    by_cases f : x ≤ 0
    · rw [if_pos f, if_pos f]; rw [show (1 : Int32) + 0 = 1 by decide]
    · rw [if_neg f, if_neg f]; rw [show (1 : Int32) + 1 = 2 by decide]
theorem step_M2 (w : MS) (a1 b : Int32) : pX1_step_31 w a1 b = (cnt (dm b (mf w)) (dm b (mh w)), mh_ (mf_ w (dm b (mf w))) (dm b (mh w))) := by
  have k : ∀ x : Int32, pX1_step_51 w a1 x b = (cnt x (dm b (mh w)), mh_ (mf_ w x) (dm b (mh w))) := by
    intro x
    unfold pX1_step_51 dm
    rw [mh_mf_]
    by_cases f : mh w ≤ b
    · rw [if_pos f, if_pos f, step_M1, mf_mf_]
    · rw [if_neg f, if_neg f, step_M1, mf_mf_]
  unfold pX1_step_31
  by_cases e : mf w ≤ b
  · have q : dm b (mf w) = 0 := by unfold dm; rw [if_pos e]
    rw [if_pos e, k, q]
  · have q : dm b (mf w) = mf w - b := by unfold dm; rw [if_neg e]
    rw [if_neg e, k, q]
set_option maxRecDepth 100000 in
theorem sb_d : ∀ (a i : Fin 11), i ≤ a → nI a.val - nI i.val = nI (a.val - i.val) := by decide +kernel
theorem dn_fl {i : Nat} (hi : i < 2 ^ 31) {f : Int32} (h : fl10 f) : fl10 (dn (nI i) f) := by
  obtain ⟨a, ha, rfl⟩ := h
  unfold dn
  by_cases c : nI i < nI a
  · rw [if_pos c]
    have hl : i < a := (nI_ltI hi (by omega)).mp c
    exact ⟨a - i, by omega, sb_d ⟨a, by omega⟩ ⟨i, by omega⟩ (Nat.le_of_lt hl)⟩
  · rw [if_neg c]; exact ⟨0, by decide, rfl⟩
theorem dm_dn {i : Nat} (hi : i < 2 ^ 31) {f : Int32} (h : fl10 f) : dm (if nI i ≤ 10 then nI i else 10) f = dn (nI i) f := by
  obtain ⟨a, ha, rfl⟩ := h
  by_cases c : nI i ≤ 10
  · rw [if_pos c]
    unfold dm dn
    by_cases d : nI i < nI a
    · rw [if_pos d, if_neg (Int32.not_le.mpr d)]
    · rw [if_neg d, if_pos (Int32.not_lt.mp d)]
  · rw [if_neg c]
    unfold dm dn
    have h10 : ¬ i ≤ 10 := fun z => c (nI_le (a := i) (b := 10) z (by decide))
    rw [if_pos (show nI a ≤ 10 from nI_le (a := a) (b := 10) ha (by decide)), if_neg (nI_nlt (a := i) (b := a) (by omega) hi)]
theorem sim_step {u : XS} {v : MS} {n : Nat} (h : RR u v) (hI : InvX u) (hM : InvM n v) (hn : n ≤ 1000000) (a1 : Int32) : SimT (pX0_step u a1) u (pX1_step v a1) := by
  by_cases c1 : 1 ≤ a1
  · have c0 : ¬ a1 < 1 := Int32.not_lt.mpr c1
    have c2 : ¬ a1 < 0 := fun z => c0 (Int32.lt_trans z (by decide))
    obtain ⟨i, hi, rfl⟩ := nI_of c2
    have hr := S_mt (⟨h.1, hI, hM⟩ : RI n u v) 0
    have ef : mf (mt_ v 0) = xF u 0 := hr.1.2.2.1
    have eh : mh (mt_ v 0) = xF u 1 := hr.1.2.2.2.1
    have f0 : fl10 (xF u 0) := hr.1.2.2.2.2.2.2.2.2.2.2.2.2.2.2.1
    have f1 : fl10 (xF u 1) := hr.1.2.2.2.2.2.2.2.2.2.2.2.2.2.2.2.1
    have em : pX1_step v (nI i) = (cnt (dn (nI i) (xF u 0)) (dn (nI i) (xF u 1)), mh_ (mf_ (mt_ v 0) (dn (nI i) (xF u 0))) (dn (nI i) (xF u 1))) := by
      have e1 : pX1_step v (nI i) = pX1_step_31 (mt_ v 0) (nI i) (if nI i ≤ 10 then nI i else 10) := by
        unfold pX1_step
        rw [if_neg c0, good1]
        by_cases d : nI i ≤ 10
        · rw [if_pos d, if_pos d]
        · rw [if_neg d, if_neg d]
      rw [e1, step_M2, ef, eh, dm_dn hi f0, dm_dn hi f1]
    rw [step_X2 u _ c1, em]
    have hs := S_fl hr (dn_fl hi f0) (dn_fl hi f1)
    exact ⟨by rw [mt_mh_, mt_mf_, mt_mt_], rfl, RRi hs (JJ_same h.2.1 (by rw [xA_xF_]) (by rw [xn_xF_]) (by rw [xa_xF_]) (by rw [xg_xF_])) (by unfold G64; rw [xA_xF_]; exact h.2.2)⟩
  · unfold pX0_step pX1_step
    rw [if_neg c1, if_pos (Int32.not_le.mp c1)]; exact SimNo h hI hM
