theorem tn0 : Int32.toNatClampNeg 0 = 0 := by decide
theorem tn1 : Int32.toNatClampNeg 1 = 1 := by decide
theorem tn2 : Int32.toNatClampNeg 2 = 2 := by decide
theorem tn3 : Int32.toNatClampNeg 3 = 3 := by decide
theorem tn4 : Int32.toNatClampNeg 4 = 4 := by decide
theorem tn5 : Int32.toNatClampNeg 5 = 5 := by decide
theorem tn6 : Int32.toNatClampNeg 6 = 6 := by decide
def encX (p f t b : Int32) : Int32 := ((p ||| (f <<< ((1 : Int32) &&& 31))) ||| (t <<< ((4 : Int32) &&& 31))) ||| (pX0_bit b 128)
theorem ch_xM (u : XS) (p m b : Int32) : xM (pX0_change u p m b) = xM u := by
  unfold pX0_change
  split
  · rfl
  · split <;> split <;> simp only [xM_xA_, xM_xF_, xM_xM_, xM_xS_, xM_xl_, xM_xn_, xM_xa_, xM_xg_, xM_xe_, xM_xw_, xM_xC_, xM_xc_]
theorem ch_xS (u : XS) (p m b : Int32) : xS (pX0_change u p m b) = xS u := by
  unfold pX0_change
  split
  · rfl
  · split <;> split <;> simp only [xS_xA_, xS_xF_, xS_xM_, xS_xS_, xS_xl_, xS_xn_, xS_xa_, xS_xg_, xS_xe_, xS_xw_, xS_xC_, xS_xc_]
theorem ch_xl (u : XS) (p m b : Int32) : xl (pX0_change u p m b) = xl u := by
  unfold pX0_change
  split
  · rfl
  · split <;> split <;> simp only [xl_xA_, xl_xF_, xl_xM_, xl_xS_, xl_xl_, xl_xn_, xl_xa_, xl_xg_, xl_xe_, xl_xw_, xl_xC_, xl_xc_]
theorem ch_xn (u : XS) (p m b : Int32) : xn (pX0_change u p m b) = xn u := by
  unfold pX0_change
  split
  · rfl
  · split <;> split <;> simp only [xn_xA_, xn_xF_, xn_xM_, xn_xS_, xn_xl_, xn_xn_, xn_xa_, xn_xg_, xn_xe_, xn_xw_, xn_xC_, xn_xc_]
theorem ch_xa (u : XS) (p m b : Int32) : xa (pX0_change u p m b) = xa u := by
  unfold pX0_change
  split
  · rfl
  · split <;> split <;> simp only [xa_xA_, xa_xF_, xa_xM_, xa_xS_, xa_xl_, xa_xn_, xa_xa_, xa_xg_, xa_xe_, xa_xw_, xa_xC_, xa_xc_]
theorem ch_xg (u : XS) (p m b : Int32) : xg (pX0_change u p m b) = xg u := by
  unfold pX0_change
  split
  · rfl
  · split <;> split <;> simp only [xg_xA_, xg_xF_, xg_xM_, xg_xS_, xg_xl_, xg_xn_, xg_xa_, xg_xg_, xg_xe_, xg_xw_, xg_xC_, xg_xc_]
theorem ch_xe (u : XS) (p m b : Int32) : xe (pX0_change u p m b) = xe u := by
  unfold pX0_change
  split
  · rfl
  · split <;> split <;> simp only [xe_xA_, xe_xF_, xe_xM_, xe_xS_, xe_xl_, xe_xn_, xe_xa_, xe_xg_, xe_xe_, xe_xw_, xe_xC_, xe_xc_]
theorem ch_xw (u : XS) (p m b : Int32) : xw (pX0_change u p m b) = xw u := by
  unfold pX0_change
  split
  · rfl
  · split <;> split <;> simp only [xw_xA_, xw_xF_, xw_xM_, xw_xS_, xw_xl_, xw_xn_, xw_xa_, xw_xg_, xw_xe_, xw_xw_, xw_xC_, xw_xc_]
theorem ch_xA (u : XS) (p m b : Int32) : xA (pX0_change u p m b) = if xA u (Int32.toNatClampNeg p) = m then xA u else upd (xA u) (Int32.toNatClampNeg p) m := by
  unfold pX0_change
  by_cases h1 : xA u (Int32.toNatClampNeg p) = m
  · rw [if_pos h1, if_pos h1]
  · rw [if_neg h1, if_neg h1]
    by_cases h2 : b = 0
    · rw [if_pos h2, xc_xA_]
      by_cases h3 : (300 : Int32) ≤ xc u
      · rw [if_pos h3]; simp only [xA_xA_, xA_xF_, xA_xM_, xA_xS_, xA_xl_, xA_xn_, xA_xa_, xA_xg_, xA_xe_, xA_xw_, xA_xC_, xA_xc_]
      · rw [if_neg h3]; simp only [xA_xA_, xA_xF_, xA_xM_, xA_xS_, xA_xl_, xA_xn_, xA_xa_, xA_xg_, xA_xe_, xA_xw_, xA_xC_, xA_xc_]
    · rw [if_neg h2, xc_xF_, xc_xA_]
      by_cases h3 : (300 : Int32) ≤ xc u
      · rw [if_pos h3]; simp only [xA_xA_, xA_xF_, xA_xM_, xA_xS_, xA_xl_, xA_xn_, xA_xa_, xA_xg_, xA_xe_, xA_xw_, xA_xC_, xA_xc_]
      · rw [if_neg h3]; simp only [xA_xA_, xA_xF_, xA_xM_, xA_xS_, xA_xl_, xA_xn_, xA_xa_, xA_xg_, xA_xe_, xA_xw_, xA_xC_, xA_xc_]
theorem ch_xF (u : XS) (p m b : Int32) : xF (pX0_change u p m b) = if xA u (Int32.toNatClampNeg p) = m then xF u else if b = 0 then xF u else upd (xF u) (Int32.toNatClampNeg p) 10 := by
  unfold pX0_change
  by_cases h1 : xA u (Int32.toNatClampNeg p) = m
  · rw [if_pos h1, if_pos h1]
  · rw [if_neg h1, if_neg h1]
    by_cases h2 : b = 0
    · rw [if_pos h2, xc_xA_]
      by_cases h3 : (300 : Int32) ≤ xc u
      · rw [if_pos h3]; rw [if_pos h2]; simp only [xF_xA_, xF_xF_, xF_xM_, xF_xS_, xF_xl_, xF_xn_, xF_xa_, xF_xg_, xF_xe_, xF_xw_, xF_xC_, xF_xc_]
      · rw [if_neg h3]; rw [if_pos h2]; simp only [xF_xA_, xF_xF_, xF_xM_, xF_xS_, xF_xl_, xF_xn_, xF_xa_, xF_xg_, xF_xe_, xF_xw_, xF_xC_, xF_xc_]
    · rw [if_neg h2, xc_xF_, xc_xA_]
      by_cases h3 : (300 : Int32) ≤ xc u
      · rw [if_pos h3]; rw [if_neg h2]; simp only [xF_xA_, xF_xF_, xF_xM_, xF_xS_, xF_xl_, xF_xn_, xF_xa_, xF_xg_, xF_xe_, xF_xw_, xF_xC_, xF_xc_]
      · rw [if_neg h3]; rw [if_neg h2]; simp only [xF_xA_, xF_xF_, xF_xM_, xF_xS_, xF_xl_, xF_xn_, xF_xa_, xF_xg_, xF_xe_, xF_xw_, xF_xC_, xF_xc_]
theorem ch_xc (u : XS) (p m b : Int32) : xc (pX0_change u p m b) = if xA u (Int32.toNatClampNeg p) = m then xc u else if 300 ≤ xc u then xc u else xc u + 1 := by
  unfold pX0_change
  by_cases h1 : xA u (Int32.toNatClampNeg p) = m
  · rw [if_pos h1, if_pos h1]
  · rw [if_neg h1, if_neg h1]
    by_cases h2 : b = 0
    · rw [if_pos h2, xc_xA_]
      by_cases h3 : (300 : Int32) ≤ xc u
      · rw [if_pos h3]; rw [if_pos h3]; simp only [xc_xA_, xc_xF_, xc_xM_, xc_xS_, xc_xl_, xc_xn_, xc_xa_, xc_xg_, xc_xe_, xc_xw_, xc_xC_, xc_xc_]
      · rw [if_neg h3]; rw [if_neg h3]; simp only [xc_xA_, xc_xF_, xc_xM_, xc_xS_, xc_xl_, xc_xn_, xc_xa_, xc_xg_, xc_xe_, xc_xw_, xc_xC_, xc_xc_]
    · rw [if_neg h2, xc_xF_, xc_xA_]
      by_cases h3 : (300 : Int32) ≤ xc u
      · rw [if_pos h3]; rw [if_pos h3]; simp only [xc_xA_, xc_xF_, xc_xM_, xc_xS_, xc_xl_, xc_xn_, xc_xa_, xc_xg_, xc_xe_, xc_xw_, xc_xC_, xc_xc_]
      · rw [if_neg h3]; rw [if_neg h3]; simp only [xc_xA_, xc_xF_, xc_xM_, xc_xS_, xc_xl_, xc_xn_, xc_xa_, xc_xg_, xc_xe_, xc_xw_, xc_xC_, xc_xc_]
theorem ch_xC (u : XS) (p m b : Int32) : xC (pX0_change u p m b) = if xA u (Int32.toNatClampNeg p) = m then xC u else if 300 ≤ xc u then xC u else upd (xC u) (Int32.toNatClampNeg (xc u)) (encX p (xA u (Int32.toNatClampNeg p)) m b) := by
  unfold pX0_change
  by_cases h1 : xA u (Int32.toNatClampNeg p) = m
  · rw [if_pos h1, if_pos h1]
  · rw [if_neg h1, if_neg h1]
    by_cases h2 : b = 0
    · rw [if_pos h2, xc_xA_]
      by_cases h3 : (300 : Int32) ≤ xc u
      · rw [if_pos h3]; rw [if_pos h3]; simp only [xC_xA_, xC_xF_, xC_xM_, xC_xS_, xC_xl_, xC_xn_, xC_xa_, xC_xg_, xC_xe_, xC_xw_, xC_xC_, xC_xc_, xc_xA_, xc_xF_, xc_xM_, xc_xS_, xc_xl_, xc_xn_, xc_xa_, xc_xg_, xc_xe_, xc_xw_, xc_xC_, xc_xc_]
      · rw [if_neg h3]; rw [if_neg h3]; simp only [xC_xA_, xC_xF_, xC_xM_, xC_xS_, xC_xl_, xC_xn_, xC_xa_, xC_xg_, xC_xe_, xC_xw_, xC_xC_, xC_xc_, xc_xA_, xc_xF_, xc_xM_, xc_xS_, xc_xl_, xc_xn_, xc_xa_, xc_xg_, xc_xe_, xc_xw_, xc_xC_, xc_xc_]; rfl
    · rw [if_neg h2, xc_xF_, xc_xA_]
      by_cases h3 : (300 : Int32) ≤ xc u
      · rw [if_pos h3]; rw [if_pos h3]; simp only [xC_xA_, xC_xF_, xC_xM_, xC_xS_, xC_xl_, xC_xn_, xC_xa_, xC_xg_, xC_xe_, xC_xw_, xC_xC_, xC_xc_, xc_xA_, xc_xF_, xc_xM_, xc_xS_, xc_xl_, xc_xn_, xc_xa_, xc_xg_, xc_xe_, xc_xw_, xc_xC_, xc_xc_]
      · rw [if_neg h3]; rw [if_neg h3]; simp only [xC_xA_, xC_xF_, xC_xM_, xC_xS_, xC_xl_, xC_xn_, xC_xa_, xC_xg_, xC_xe_, xC_xw_, xC_xC_, xC_xc_, xc_xA_, xc_xF_, xc_xM_, xc_xS_, xc_xl_, xc_xn_, xc_xa_, xc_xg_, xc_xe_, xc_xw_, xc_xC_, xc_xc_]; rfl
theorem c0_A0 (u : XS) (m b : Int32) : xA (pX0_change u 0 m b) 0 = m := by
  rw [ch_xA, tn0]
  by_cases h : xA u 0 = m
  · rw [if_pos h]; exact h
  · rw [if_neg h]; exact pk_us
theorem c0_A1 (u : XS) (m b : Int32) : xA (pX0_change u 0 m b) 1 = xA u 1 := by
  rw [ch_xA, tn0]
  by_cases h : xA u 0 = m
  · rw [if_pos h]
  · rw [if_neg h]; exact pk_un (by decide)
theorem c1_A1 (u : XS) (m b : Int32) : xA (pX0_change u 1 m b) 1 = m := by
  rw [ch_xA, tn1]
  by_cases h : xA u 1 = m
  · rw [if_pos h]; exact h
  · rw [if_neg h]; exact pk_us
theorem c1_A0 (u : XS) (m b : Int32) : xA (pX0_change u 1 m b) 0 = xA u 0 := by
  rw [ch_xA, tn1]
  by_cases h : xA u 1 = m
  · rw [if_pos h]
  · rw [if_neg h]; exact pk_un (by decide)
theorem c0_F0 (u : XS) (m b : Int32) : xF (pX0_change u 0 m b) 0 = if xA u 0 = m then xF u 0 else if b = 0 then xF u 0 else 10 := by
  rw [ch_xF, tn0]
  by_cases h : xA u 0 = m
  · rw [if_pos h, if_pos h]
  · rw [if_neg h, if_neg h]
    by_cases h2 : b = 0
    · rw [if_pos h2, if_pos h2]
    · rw [if_neg h2, if_neg h2]; exact pk_us
theorem c0_F1 (u : XS) (m b : Int32) : xF (pX0_change u 0 m b) 1 = xF u 1 := by
  rw [ch_xF, tn0]
  by_cases h : xA u 0 = m
  · rw [if_pos h]
  · rw [if_neg h]
    by_cases h2 : b = 0
    · rw [if_pos h2]
    · rw [if_neg h2]; exact pk_un (by decide)
theorem c1_F1 (u : XS) (m b : Int32) : xF (pX0_change u 1 m b) 1 = if xA u 1 = m then xF u 1 else if b = 0 then xF u 1 else 10 := by
  rw [ch_xF, tn1]
  by_cases h : xA u 1 = m
  · rw [if_pos h, if_pos h]
  · rw [if_neg h, if_neg h]
    by_cases h2 : b = 0
    · rw [if_pos h2, if_pos h2]
    · rw [if_neg h2, if_neg h2]; exact pk_us
theorem c1_F0 (u : XS) (m b : Int32) : xF (pX0_change u 1 m b) 0 = xF u 0 := by
  rw [ch_xF, tn1]
  by_cases h : xA u 1 = m
  · rw [if_pos h]
  · rw [if_neg h]
    by_cases h2 : b = 0
    · rw [if_pos h2]
    · rw [if_neg h2]; exact pk_un (by decide)
theorem ch_arm (u : XS) (p m b : Int32) : arm (pX0_change u p m b) = arm u := by unfold arm; rw [ch_xn, ch_xa]
theorem ch_same {u : XS} {p m : Int32} (b : Int32) (h : xA u (Int32.toNatClampNeg p) = m) : pX0_change u p m b = u := by unfold pX0_change; rw [if_pos h]
theorem lt_same {v : MS} {m : Int32} (b : Int32) (h : ml v = m) : pX1_lateralTo v m b = v := by unfold pX1_lateralTo; rw [if_pos h]
theorem vt_same {v : MS} {m : Int32} (b : Int32) (h : mv v = m) : pX1_verticalTo v m b = v := by unfold pX1_verticalTo; rw [if_pos h]
theorem inv_ch {u : XS} (h : InvX u) (p m b : Int32) : InvX (pX0_change u p m b) := by
  obtain ⟨h1, h2, h3, h4, h5, h6, k, hk, e⟩ := h
  refine ⟨by rw [ch_xl]; exact h1, by rw [ch_xn]; exact h2, by rw [ch_xa]; exact h3, by rw [ch_xg]; exact h4, by rw [ch_xe]; exact h5, by rw [ch_xw]; exact h6, ?_⟩
  rw [ch_xc]
  by_cases q : xA u (Int32.toNatClampNeg p) = m
  · rw [if_pos q]; exact ⟨k, hk, e⟩
  · rw [if_neg q]
    by_cases q2 : (300 : Int32) ≤ xc u
    · rw [if_pos q2]; exact ⟨k, hk, e⟩
    · rw [if_neg q2]
      refine ⟨k + 1, ?_, by rw [e]; exact nI_1 k⟩
      rcases Nat.lt_or_ge k 300 with z | z
      · exact z
      · exact absurd (by rw [e]; exact nI_le (a := 300) (b := k) z (by omega)) q2
theorem inv_lt {n : Nat} {v : MS} (h : InvM n v) (m b : Int32) : InvM (n + 1) (pX1_lateralTo v m b) := by
  obtain ⟨h1, h2, h3, h4, h5, h6, k, hk, e⟩ := h
  refine ⟨by rw [lt_mg]; exact h1, by rw [lt_me]; exact h2, by rw [lt_mw]; exact h3, by rw [lt_mb]; exact h4, by rw [lt_md]; exact h5, by rw [lt_mr]; exact h6, ?_⟩
  rw [lt_mk]
  by_cases q : ml v = m
  · rw [if_pos q]; exact ⟨k, by omega, e⟩
  · rw [if_neg q]; exact ⟨k + 1, by omega, by rw [e]; exact nI_1 k⟩
theorem inv_vt {n : Nat} {v : MS} (h : InvM n v) (m b : Int32) : InvM (n + 1) (pX1_verticalTo v m b) := by
  obtain ⟨h1, h2, h3, h4, h5, h6, k, hk, e⟩ := h
  refine ⟨by rw [vt_mg]; exact h1, by rw [vt_me]; exact h2, by rw [vt_mw]; exact h3, by rw [vt_mb]; exact h4, by rw [vt_md]; exact h5, by rw [vt_mr]; exact h6, ?_⟩
  rw [vt_mk]
  by_cases q : mv v = m
  · rw [if_pos q]; exact ⟨k, by omega, e⟩
  · rw [if_neg q]; exact ⟨k + 1, by omega, by rw [e]; exact nI_1 k⟩
/-- one more change is kept on both sides -/
theorem LG_step {u u1 : XS} {v v1 : MS} {k : Nat} (h : LG u v) (hk : mk v = nI k) (hk6 : k ≤ 3000000) {p f t b : Nat} (hp : p < 2) (hf : f < 8) (ht : t < 8) (hb : b < 2)
    (ec : xc u1 = if (300 : Int32) ≤ xc u then xc u else xc u + 1) (eC : xC u1 = if (300 : Int32) ≤ xc u then xC u else upd (xC u) (Int32.toNatClampNeg (xc u)) (encX (nI p) (nI f) (nI t) (nI b)))
    (ek : mk v1 = mk v + 1) (eR : mR v1 = kR (mR v) (mk v) (nI p) (nI f) (nI t) (nI b)) : LG u1 v1 := by
  obtain ⟨g1, g2⟩ := h
  have tk : (mk v).toNatClampNeg = k := by rw [hk]; exact nI_clamp (by omega)
  have tk1 : (mk v1).toNatClampNeg = k + 1 := by rw [ek, hk, nI_1]; exact nI_clamp (by omega)
  rw [tk] at g1 g2
  unfold LG
  rw [tk1]
  rcases Nat.lt_or_ge k 300 with q | q
  · have m1 : min k 300 = k := by omega
    have m2 : min (k + 1) 300 = k + 1 := by omega
    rw [m1] at g1 g2
    rw [m2]
    have c1 : ¬ (300 : Int32) ≤ xc u := by rw [g1]; exact nI_ge (a := k) (b := 300) q (by decide)
    have c2 : ¬ (300 : Int32) ≤ mk v := by rw [hk]; exact nI_ge (a := k) (b := 300) q (by decide)
    rw [if_neg c1] at ec eC
    have tc : (xc u).toNatClampNeg = k := by rw [g1]; exact nI_clamp (by omega)
    unfold kR at eR
    rw [if_neg c2, hk] at eR
    have h4 : (4 : Int32) * nI k = nI (4 * k) := pk_mul 4 k
    have a1 : nI (4 * k) + 1 = nI (4 * k + 1) := nI_add (4 * k) 1
    have a2 : nI (4 * k) + 2 = nI (4 * k + 2) := nI_add (4 * k) 2
    have a3 : nI (4 * k) + 3 = nI (4 * k + 3) := nI_add (4 * k) 3
    rw [h4, a1, a2, a3, nI_clamp (by omega), nI_clamp (by omega), nI_clamp (by omega), nI_clamp (by omega)] at eR
    rw [tc] at eC
    refine ⟨by rw [ec, g1, nI_1], fun j hj => ?_⟩
    rw [eC, eR]
    rcases Nat.lt_or_ge j k with z | z
    · rw [pk_un (by omega), pk_un (by omega), pk_un (by omega), pk_un (by omega), pk_un (by omega), pk_un (by omega), pk_un (by omega), pk_un (by omega), pk_un (by omega), pk_un (by omega), pk_un (by omega), pk_un (by omega), pk_un (by omega), pk_un (by omega), pk_un (by omega), pk_un (by omega), pk_un (by omega)]
      exact g2 j z
    · have e : j = k := by omega
      subst e
      refine ⟨p, f, t, b, hp, hf, ht, hb, ?_, ?_, ?_, ?_, ?_⟩
      · rw [pk_un (by omega), pk_un (by omega), pk_un (by omega), pk_us]
      · rw [pk_un (by omega), pk_un (by omega), pk_us]
      · rw [pk_un (by omega), pk_us]
      · rw [pk_us]
      · rw [pk_us]; rfl
  · have m1 : min k 300 = 300 := by omega
    have m2 : min (k + 1) 300 = 300 := by omega
    rw [m1] at g1 g2
    rw [m2]
    have c1 : (300 : Int32) ≤ xc u := by rw [g1]; decide
    have c2 : (300 : Int32) ≤ mk v := by rw [hk]; exact nI_le (a := 300) (b := k) q (by omega)
    rw [if_pos c1] at ec eC
    unfold kR at eR
    rw [if_pos c2] at eR
    rw [ec, eC, eR]
    exact ⟨g1, g2⟩
def RI (n : Nat) (u : XS) (v : MS) : Prop := R0 u v ∧ InvX u ∧ InvM n v
theorem bz_01 {b : Int32} (h : bz b) : ∃ c : Nat, c < 2 ∧ b = nI c := by
  rcases h with h | h
  · exact ⟨0, by decide, h⟩
  · exact ⟨1, by decide, h⟩
theorem fl_ite {x : Int32} {P Q : Prop} [Decidable P] [Decidable Q] (h : fl10 x) : fl10 (if P then x else if Q then x else 10) := by
  split
  · exact h
  · split
    · exact h
    · exact ⟨10, by decide, rfl⟩
theorem ite_b {b x : Int32} {P : Prop} [Decidable P] (hb : bz b) : (if P then x else if b = 1 then 10 else x) = (if P then x else if b = 0 then x else 10) := by
  rcases hb with rfl | rfl
  · split
    · rfl
    · rw [if_neg (by decide), if_pos rfl]
  · split
    · rfl
    · rw [if_pos rfl, if_neg (by decide)]
theorem S_lat {n : Nat} {u : XS} {v : MS} (h : RI n u v) (hn : n ≤ 2900000) {m b : Int32} (hm : md8 m) (hb : bz b) : RI (n + 1) (pX0_change u 0 m b) (pX1_lateralTo v m b) := by
  obtain ⟨⟨r1, r2, r3, r4, r5, r6, r7, r8, r9, r10, r11, r12, r13, r14, r15, r16, r17⟩, hX, hM⟩ := h
  refine ⟨⟨?_, ?_, ?_, ?_, ?_, ?_, ?_, ?_, ?_, ?_, ?_, ?_, ?_, ?_, ?_, ?_, ?_⟩, inv_ch hX _ _ _, inv_lt hM _ _⟩
  · rw [lt_ml, c0_A0]
  · rw [lt_mv, c0_A1, r2]
  · rw [lt_mf, c0_F0, r1, r3]; exact ite_b hb
  · rw [lt_mh, c0_F1, r4]
  · rw [lt_mV, ch_xM, r5]
  · rw [lt_mb, ch_xS, r6]
  · rw [lt_md, ch_xS, r7]
  · rw [lt_mr, ch_xl, r8]
  · rw [lt_me, ch_xe, r9]
  · rw [lt_mw, ch_xw, r10]
  · rw [lt_mg, ch_xg, r11]
  · rw [lt_ma, ch_arm, r12]
  · rw [c0_A0]; exact hm
  · rw [c0_A1]; exact r14
  · rw [c0_F0]; exact fl_ite r15
  · rw [c0_F1]; exact r16
  · by_cases q : xA u 0 = m
    · rw [ch_same b (by rw [tn0]; exact q), lt_same b (by rw [r1]; exact q)]; exact r17
    · obtain ⟨f, hf, ef⟩ := r13
      obtain ⟨t, ht, et⟩ := hm
      obtain ⟨c, hc, ec⟩ := bz_01 hb
      obtain ⟨k, hk, ek⟩ := hM.2.2.2.2.2.2
      have q1 : ¬ xA u (Int32.toNatClampNeg 0) = m := by rw [tn0]; exact q
      have q2 : ¬ ml v = m := by rw [r1]; exact q
      refine LG_step (p := 0) (f := f) (t := t) (b := c) r17 ek (by omega) (by decide) hf ht hc ?_ ?_ ?_ ?_
      · rw [ch_xc, if_neg q1]
      · rw [ch_xC, if_neg q1, tn0, ef, et, ec]; rfl
      · rw [lt_mk, if_neg q2]
      · rw [lt_mR, if_neg q2, r1, ef, et, ec]; rfl
theorem S_ver {n : Nat} {u : XS} {v : MS} (h : RI n u v) (hn : n ≤ 2900000) {m b : Int32} (hm : md8 m) (hb : bz b) : RI (n + 1) (pX0_change u 1 m b) (pX1_verticalTo v m b) := by
  obtain ⟨⟨r1, r2, r3, r4, r5, r6, r7, r8, r9, r10, r11, r12, r13, r14, r15, r16, r17⟩, hX, hM⟩ := h
  refine ⟨⟨?_, ?_, ?_, ?_, ?_, ?_, ?_, ?_, ?_, ?_, ?_, ?_, ?_, ?_, ?_, ?_, ?_⟩, inv_ch hX _ _ _, inv_vt hM _ _⟩
  · rw [vt_ml, c1_A0, r1]
  · rw [vt_mv, c1_A1]
  · rw [vt_mf, c1_F0, r3]
  · rw [vt_mh, c1_F1, r2, r4]; exact ite_b hb
  · rw [vt_mV, ch_xM, r5]
  · rw [vt_mb, ch_xS, r6]
  · rw [vt_md, ch_xS, r7]
  · rw [vt_mr, ch_xl, r8]
  · rw [vt_me, ch_xe, r9]
  · rw [vt_mw, ch_xw, r10]
  · rw [vt_mg, ch_xg, r11]
  · rw [vt_ma, ch_arm, r12]
  · rw [c1_A0]; exact r13
  · rw [c1_A1]; exact hm
  · rw [c1_F0]; exact r15
  · rw [c1_F1]; exact fl_ite r16
  · by_cases q : xA u 1 = m
    · rw [ch_same b (by rw [tn1]; exact q), vt_same b (by rw [r2]; exact q)]; exact r17
    · obtain ⟨f, hf, ef⟩ := r14
      obtain ⟨t, ht, et⟩ := hm
      obtain ⟨c, hc, ec⟩ := bz_01 hb
      obtain ⟨k, hk, ek⟩ := hM.2.2.2.2.2.2
      have q1 : ¬ xA u (Int32.toNatClampNeg 1) = m := by rw [tn1]; exact q
      have q2 : ¬ mv v = m := by rw [r2]; exact q
      refine LG_step (p := 1) (f := f) (t := t) (b := c) r17 ek (by omega) (by decide) hf ht hc ?_ ?_ ?_ ?_
      · rw [ch_xc, if_neg q1]
      · rw [ch_xC, if_neg q1, tn1, ef, et, ec]; rfl
      · rw [vt_mk, if_neg q2]
      · rw [vt_mR, if_neg q2, r2, ef, et, ec]; rfl
