def f1 (l b : Int32) : Nat := if l ≤ 0 then 0 else if b = 0 then 0 else 1
def f2 (l c : Int32) : Nat := if c = 0 then (if l = 3 then 1 else if l = 4 then 1 else 0) else 0
def f3 (a : Int32) : Nat := if a = 1 then 3 else if a = 2 then 3 else 0
def f4 (g : Int32) : Nat := if g = 0 then 0 else 7
def f5 (x a : Int32) : Nat := if x = 6 then 6 else if x = 2 then 4 else if x = 1 then 3 else if x = 3 then 3 else if x = 5 then (if a ≤ 400 then 2 else 4) else 0
def mu (v : MS) : Nat := f1 (ml v) (pX1_isBad v (mr v)) + f2 (ml v) (cj v) + f3 (ma v) + f4 (mg v) + f5 (mv v) (pX1_apart v)
theorem f1_le (l b : Int32) : f1 l b ≤ 1 := by unfold f1; split <;> (try split) <;> omega
theorem f2_le (l c : Int32) : f2 l c ≤ 1 := by unfold f2; split <;> (try split) <;> (try split) <;> omega
theorem f3_le (a : Int32) : f3 a ≤ 3 := by unfold f3; split <;> (try split) <;> omega
theorem f4_le (a : Int32) : f4 a ≤ 7 := by unfold f4; split <;> omega
theorem f5_le (x a : Int32) : f5 x a ≤ 6 := by unfold f5; split <;> (try split) <;> (try split) <;> (try split) <;> (try split) <;> (try split) <;> omega
theorem mu_le (v : MS) : mu v ≤ 18 := by
  have h1 := f1_le (ml v) (pX1_isBad v (mr v)); have h2 := f2_le (ml v) (cj v); have h3 := f3_le (ma v); have h4 := f4_le (mg v); have h5 := f5_le (mv v) (pX1_apart v)
  unfold mu; omega
theorem mu_vt (v : MS) (m b : Int32) : mu (pX1_verticalTo v m b) = f1 (ml v) (pX1_isBad v (mr v)) + f2 (ml v) (cj v) + f3 (ma v) + f4 (mg v) + f5 m (pX1_apart v) := by
  unfold mu pX1_isBad cj pX1_apart; simp only [vt_ml, vt_mr, vt_mb, vt_md, vt_mV, vt_ma, vt_mg, vt_mv]
theorem mu_lt (v : MS) (m b : Int32) : mu (pX1_lateralTo v m b) = f1 m (pX1_isBad v (mr v)) + f2 m (cj v) + f3 (ma v) + f4 (mg v) + f5 (mv v) (pX1_apart v) := by
  unfold mu pX1_isBad cj pX1_apart; simp only [lt_ml, lt_mr, lt_mb, lt_md, lt_mV, lt_ma, lt_mg, lt_mv]
theorem mu_mf (v : MS) (x : Int32) : mu (mf_ v x) = mu v := by unfold mu pX1_isBad cj pX1_apart; simp only [ml_mf_, mr_mf_, mb_mf_, md_mf_, mV_mf_, ma_mf_, mg_mf_, mv_mf_]; rfl
theorem mu_mh (v : MS) (x : Int32) : mu (mh_ v x) = mu v := by unfold mu pX1_isBad cj pX1_apart; simp only [ml_mh_, mr_mh_, mb_mh_, md_mh_, mV_mh_, ma_mh_, mg_mh_, mv_mh_]; rfl
theorem mu_mg (v : MS) (x : Int32) : mu (mg_ v x) = f1 (ml v) (pX1_isBad v (mr v)) + f2 (ml v) (cj v) + f3 (ma v) + f4 x + f5 (mv v) (pX1_apart v) := by unfold mu pX1_isBad cj pX1_apart; simp only [ml_mg_, mr_mg_, mb_mg_, md_mg_, mV_mg_, ma_mg_, mg_mg_, mv_mg_]; rfl
theorem mu_ma (v : MS) (x : Int32) : mu (ma_ v x) = f1 (ml v) (pX1_isBad v (mr v)) + f2 (ml v) (cj v) + f3 x + f4 (mg v) + f5 (mv v) (pX1_apart v) := by unfold mu pX1_isBad cj pX1_apart; simp only [ml_ma_, mr_ma_, mb_ma_, md_ma_, mV_ma_, ma_ma_, mg_ma_, mv_ma_]; rfl
theorem mu_go (v : MS) (b : Int32) : mu (pX1_goOff v b) = 0 := by
  have key : ∀ w : MS, ma w = 0 → mg w = 0 → mu (mh_ (mf_ (pX1_verticalTo (pX1_lateralTo w 0 b) 0 b) 0) 0) = 0 := by
    intro w h1 h2
    rw [mu_mh, mu_mf, mu_vt, lt_ml, lt_ma, lt_mg, h1, h2]
    have e1 : ∀ x, f1 0 x = 0 := fun x => by unfold f1; rw [if_pos (by decide)]
    have e2 : ∀ x, f2 0 x = 0 := fun x => by unfold f2; split <;> decide
    have e5 : ∀ x, f5 0 x = 0 := fun x => by unfold f5; rw [if_neg (by decide), if_neg (by decide), if_neg (by decide), if_neg (by decide), if_neg (by decide)]
    rw [e1, e2, e5]; decide
  unfold pX1_goOff
  split
  · split
    · exact key _ (by simp only [ma_me_, ma_mw_, pX1_noneArmed, ma_mg_, ma_ma_]) (by simp only [mg_me_, mg_mw_, pX1_noneArmed, mg_mg_])
    · exact key _ (by simp only [ma_me_, ma_mw_, pX1_noneArmed, ma_mg_, ma_ma_]) (by simp only [mg_me_, mg_mw_, pX1_noneArmed, mg_mg_])
  · exact key _ (by simp only [ma_me_, ma_mw_, pX1_noneArmed, ma_mg_, ma_ma_]) (by simp only [mg_me_, mg_mw_, pX1_noneArmed, mg_mg_])
theorem f4_m (v x : Int32) (h : x = 0 ∨ ¬ v = 0) : f4 x ≤ f4 v := by
  unfold f4
  rcases h with h | h
  · rw [if_pos h]; omega
  · rw [if_neg h]; split <;> omega
theorem co1 (v : MS) : pX1_comes v 1 = if (pX1_isBad v (1 - (mr v))) = 0 then (mr_ v (1 - (mr v))) else (pX1_goOff v 1) := by unfold pX1_comes; rw [if_pos rfl]
theorem co3 (v : MS) : pX1_comes v 3 = pX1_verticalTo v 1 1 := by unfold pX1_comes; rw [if_neg (by decide), if_neg (by decide), if_pos rfl]
theorem co4 (v : MS) : pX1_comes v 4 = pX1_lateralTo (ma_ v 0) 3 1 := by unfold pX1_comes; rw [if_neg (by decide), if_neg (by decide), if_neg (by decide), if_pos rfl]
theorem co5 (v : MS) : pX1_comes v 5 = pX1_lateralTo (ma_ v 0) 4 1 := by unfold pX1_comes; rw [if_neg (by decide), if_neg (by decide), if_neg (by decide), if_neg (by decide), if_pos rfl]
theorem co6 (v : MS) : pX1_comes v 6 = pX1_verticalTo (mg_ v 0) 6 1 := by unfold pX1_comes; rw [if_neg (by decide), if_neg (by decide), if_neg (by decide), if_neg (by decide), if_neg (by decide), if_pos rfl]
theorem co7 (v : MS) : pX1_comes v 7 = pX1_verticalTo v 5 1 := by unfold pX1_comes; rw [if_neg (by decide), if_neg (by decide), if_neg (by decide), if_neg (by decide), if_neg (by decide), if_neg (by decide), if_pos rfl]
theorem co8 (v : MS) : pX1_comes v 8 = pX1_verticalTo v 4 1 := by unfold pX1_comes; rw [if_neg (by decide), if_neg (by decide), if_neg (by decide), if_neg (by decide), if_neg (by decide), if_neg (by decide), if_neg (by decide), if_pos rfl]
theorem co9 (v : MS) : pX1_comes v 9 = pX1_verticalTo v 1 1 := by unfold pX1_comes; rw [if_neg (by decide), if_neg (by decide), if_neg (by decide), if_neg (by decide), if_neg (by decide), if_neg (by decide), if_neg (by decide), if_neg (by decide), if_pos rfl]
theorem co10 (v : MS) : pX1_comes v 10 = pX1_verticalTo v 3 1 := by unfold pX1_comes; rw [if_neg (by decide), if_neg (by decide), if_neg (by decide), if_neg (by decide), if_neg (by decide), if_neg (by decide), if_neg (by decide), if_neg (by decide), if_neg (by decide)]
/-- rule 2 brought about: which w comes, and its two ends -/
theorem co2 (v : MS) : ∃ (w : MS) (x : Int32), pX1_comes v 2 = mg_ w x ∧ (w = if mv v = 6 then pX1_verticalTo (pX1_lateralTo v 1 1) 1 1 else pX1_lateralTo v 1 1) ∧ x = (if mg v = 0 then 0 else if ma v = 2 then 1 else 0) := by
  unfold pX1_comes
  rw [if_neg (by decide), if_pos rfl, lt_mv]
  by_cases h : mv v = 6
  · rw [if_pos h, if_pos h, vt_mg, lt_mg, vt_ma, lt_ma]
    by_cases h2 : mg v = 0
    · rw [if_pos h2]; exact ⟨_, _, rfl, rfl, by rw [if_pos h2]⟩
    · rw [if_neg h2]
      by_cases h3 : ma v = 2
      · rw [if_pos h3]; exact ⟨_, _, rfl, rfl, by rw [if_neg h2, if_pos h3]⟩
      · rw [if_neg h3]; exact ⟨_, _, rfl, rfl, by rw [if_neg h2, if_neg h3]⟩
  · rw [if_neg h, if_neg h, lt_mg, lt_ma]
    by_cases h2 : mg v = 0
    · rw [if_pos h2]; exact ⟨_, _, rfl, rfl, by rw [if_pos h2]⟩
    · rw [if_neg h2]
      by_cases h3 : ma v = 2
      · rw [if_pos h3]; exact ⟨_, _, rfl, rfl, by rw [if_neg h2, if_pos h3]⟩
      · rw [if_neg h3]; exact ⟨_, _, rfl, rfl, by rw [if_neg h2, if_neg h3]⟩
theorem k1 (a : Int32) : f5 1 a = 3 := by unfold f5; rw [if_neg (by decide), if_neg (by decide), if_pos rfl]
theorem k2 (a : Int32) : f5 2 a = 4 := by unfold f5; rw [if_neg (by decide), if_pos rfl]
theorem k3 (a : Int32) : f5 3 a = 3 := by unfold f5; rw [if_neg (by decide), if_neg (by decide), if_neg (by decide), if_pos rfl]
theorem k4 (a : Int32) : f5 4 a = 0 := by unfold f5; rw [if_neg (by decide), if_neg (by decide), if_neg (by decide), if_neg (by decide), if_neg (by decide)]
theorem k5 (a : Int32) : f5 5 a = if a ≤ 400 then 2 else 4 := by unfold f5; rw [if_neg (by decide), if_neg (by decide), if_neg (by decide), if_neg (by decide), if_pos rfl]
theorem k6 (a : Int32) : f5 6 a = 6 := by unfold f5; rw [if_pos rfl]
theorem le_400 {a : Int32} (h : ¬ (20 : Int32) < a) : a ≤ 400 := Int32.le_trans (Int32.not_lt.mp h) (by decide)
/-- the vertical modes that stand between 0 and 4 -/
theorem f5_123 {x a : Int32} (h1 : ¬ x ≤ 0) (h2 : ¬ 4 ≤ x) : 3 ≤ f5 x a := by
  obtain ⟨j, hj, rfl⟩ := nI_of (x := x) (fun q => h1 (Int32.le_of_lt q))
  have a1 : j ≠ 0 := fun e => h1 (by rw [e]; decide)
  have a2 : j < 4 := by
    rcases Nat.lt_or_ge j 4 with q | q
    · exact q
    · exact absurd (nI_le (a := 4) (b := j) q hj) h2
  rcases (show j = 1 ∨ j = 2 ∨ j = 3 by omega) with rfl | rfl | rfl
  · exact Nat.le_of_eq (k1 a).symm
  · exact Nat.le_of_lt (by rw [show nI 2 = 2 from rfl, k2]; decide)
  · exact Nat.le_of_eq (k3 a).symm
/-- each rule lessens the measure -/
theorem mu_dec (v : MS) (hr : ¬ pX1_rule v ≤ 0) : mu (pX1_comes v (pX1_rule v)) < mu v := by
  rw [rule_top] at hr ⊢
  by_cases c1 : C1 v
  · rw [r1y c1, co1]
    have hm : 1 ≤ mu v := by
      have : f1 (ml v) (pX1_isBad v (mr v)) = 1 := by unfold f1; rw [if_neg c1.1, if_neg c1.2]
      unfold mu; omega
    by_cases h : pX1_isBad v (1 - (mr v)) = 0
    · rw [if_pos h]
      have e : mu (mr_ v (1 - mr v)) = f1 (ml v) (pX1_isBad v (1 - mr v)) + f2 (ml v) (cj v) + f3 (ma v) + f4 (mg v) + f5 (mv v) (pX1_apart v) := by unfold mu pX1_isBad cj pX1_apart; simp only [ml_mr_, mr_mr_, mb_mr_, md_mr_, mV_mr_, ma_mr_, mg_mr_, mv_mr_]; rfl
      have e1 : f1 (ml v) (pX1_isBad v (1 - mr v)) = 0 := by unfold f1; rw [h, if_pos rfl]; split <;> rfl
      have e2 : f1 (ml v) (pX1_isBad v (mr v)) = 1 := by unfold f1; rw [if_neg c1.1, if_neg c1.2]
      rw [e, e1]; unfold mu; rw [e2]; omega
    · rw [if_neg h, mu_go]; omega
  · rw [r1n c1] at hr ⊢
    by_cases c2 : C2 v
    · rw [r2y c2]
      obtain ⟨w, x, e1, e2, e3⟩ := co2 v
      rw [e1, mu_mg]
      have hx : f4 x ≤ f4 (mg v) := f4_m _ _ (by rw [e3]; by_cases h : mg v = 0; · rw [if_pos h]; exact Or.inl rfl
                                                 · exact Or.inr h)
      have hb : ¬ ml v ≤ 0 := by rcases c2.1 with h | h <;> rw [h] <;> decide
      have hbad : pX1_isBad v (mr v) = 0 := by
        by_cases h : pX1_isBad v (mr v) = 0
        · exact h
        · exact absurd ⟨hb, h⟩ c1
      have g2 : f2 (ml v) (cj v) = 1 := by
        unfold f2; rw [if_pos c2.2]
        rcases c2.1 with h | h
        · rw [if_pos h]
        · rw [h, if_neg (by decide), if_pos rfl]
      have g1 : ∀ l, f1 l 0 = 0 := fun l => by unfold f1; rw [if_pos rfl]; split <;> rfl
      have g3 : f2 1 (cj v) = 0 := by
        unfold f2
        split
        · rw [if_neg (by decide), if_neg (by decide)]
        · rfl
      by_cases h6 : mv v = 6
      · rw [if_pos h6] at e2
        have m1 : mu w = f1 1 (pX1_isBad v (mr v)) + f2 1 (cj v) + f3 (ma v) + f4 (mg v) + f5 1 (pX1_apart v) := by
          rw [e2, mu_vt]; unfold pX1_isBad cj pX1_apart; simp only [lt_ml, lt_mr, lt_mb, lt_md, lt_mV, lt_ma, lt_mg, lt_mv]
        have m2 : f1 (ml w) (pX1_isBad w (mr w)) + f2 (ml w) (cj w) + f3 (ma w) + f5 (mv w) (pX1_apart w) + f4 (mg w) = mu w := by unfold mu; omega
        have m3 : mg w = mg v := by rw [e2, vt_mg, lt_mg]
        rw [m3] at m2
        rw [hbad, g1, g3, k1] at m1
        unfold mu; rw [hbad, g1, g2, h6, k6]; omega
      · rw [if_neg h6] at e2
        have m1 : mu w = f1 1 (pX1_isBad v (mr v)) + f2 1 (cj v) + f3 (ma v) + f4 (mg v) + f5 (mv v) (pX1_apart v) := by rw [e2, mu_lt]
        have m2 : f1 (ml w) (pX1_isBad w (mr w)) + f2 (ml w) (cj w) + f3 (ma w) + f5 (mv w) (pX1_apart w) + f4 (mg w) = mu w := by unfold mu; omega
        have m3 : mg w = mg v := by rw [e2, lt_mg]
        rw [m3] at m2
        rw [hbad, g1, g3] at m1
        unfold mu; rw [hbad, g1, g2]; omega
    · rw [r2n c2] at hr ⊢
      by_cases c3 : C3 v
      · rw [r3y c3, co3, mu_vt, k1]; unfold mu; rw [c3.1, k6]; omega
      · rw [r3n c3] at hr ⊢
        have ha : ∀ (k : Int32) (hk : f2 k (cj v) = 0) , mu (pX1_lateralTo (ma_ v 0) k 1) ≤ 1 + f4 (mg v) + f5 (mv v) (pX1_apart v) := by
          intro k hk
          rw [mu_lt]
          have e9 : f1 k (pX1_isBad (ma_ v 0) (mr (ma_ v 0))) + f2 k (cj (ma_ v 0)) + f3 (ma (ma_ v 0)) + f4 (mg (ma_ v 0)) + f5 (mv (ma_ v 0)) (pX1_apart (ma_ v 0)) = f1 k (pX1_isBad v (mr v)) + f2 k (cj v) + f3 0 + f4 (mg v) + f5 (mv v) (pX1_apart v) := by unfold pX1_isBad cj pX1_apart; simp only [mr_ma_, mb_ma_, md_ma_, mV_ma_, ma_ma_, mg_ma_, mv_ma_]; rfl
          rw [e9]
          have := f1_le k (pX1_isBad v (mr v))
          rw [hk, show f3 0 = 0 by decide]; omega
        by_cases c4 : C4 v
        · rw [r4y c4, co4]
          have := ha 3 (by unfold f2; rw [if_neg c4.2.1])
          have h3 : f3 (ma v) = 3 := by unfold f3; rw [if_pos c4.1]
          unfold mu at this ⊢; rw [h3]; omega
        · rw [r4n c4] at hr ⊢
          by_cases c5 : C5 v
          · rw [r5y c5, co5]
            have := ha 4 (by unfold f2; rw [if_neg c5.2.1])
            have h3 : f3 (ma v) = 3 := by rw [c5.1]; decide
            unfold mu at this ⊢; rw [h3]; omega
          · rw [r5n c5] at hr ⊢
            by_cases c6 : C6 v
            · rw [r6y c6, co6, mu_vt, k6]
              have e9 : f1 (ml (mg_ v 0)) (pX1_isBad (mg_ v 0) (mr (mg_ v 0))) + f2 (ml (mg_ v 0)) (cj (mg_ v 0)) + f3 (ma (mg_ v 0)) + f4 (mg (mg_ v 0)) + 6 = f1 (ml v) (pX1_isBad v (mr v)) + f2 (ml v) (cj v) + f3 (ma v) + f4 0 + 6 := by unfold pX1_isBad cj; simp only [ml_mg_, mr_mg_, mb_mg_, md_mg_, mV_mg_, ma_mg_, mg_mg_]; rfl
              rw [e9]
              have h4 : f4 (mg v) = 7 := by unfold f4; rw [if_neg c6.1]
              rw [show f4 0 = 0 by decide]; unfold mu; rw [h4]; omega
            · rw [r6n c6] at hr ⊢
              by_cases c7 : C7 v
              · rw [r7y c7, co7, mu_vt, k5, if_pos (Int32.not_lt.mp c7.2.2)]
                have := f5_123 (a := pX1_apart v) c7.1 c7.2.1
                unfold mu; omega
              · rw [r7n c7] at hr ⊢
                by_cases c8 : C8 v
                · rw [r8y c8, co8, mu_vt, k4]; unfold mu; rw [c8.1, k5, if_pos (le_400 c8.2)]; omega
                · rw [r8n c8] at hr ⊢
                  by_cases c9 : C9 v
                  · rw [r9y c9, co9, mu_vt, k1]; unfold mu; rw [c9.1, k5, if_neg c9.2]; omega
                  · rw [r9n c9] at hr ⊢
                    by_cases c10 : C10 v
                    · rw [r10y c10, co10, mu_vt, k3]; unfold mu; rw [c10.1, k2]; omega
                    · rw [r10n c10] at hr; exact absurd (by decide) hr
theorem doneMu : ∀ (n : Nat) (v : MS), mu v ≤ n → doneM n v
  | 0, v, h => by
    show pX1_rule v ≤ 0
    by_cases q : pX1_rule v ≤ 0
    · exact q
    · exact absurd (mu_dec v q) (by omega)
  | n + 1, v, h => fun q => doneMu n _ (by have := mu_dec v q; omega)
theorem done20 (u : MS) : doneM 20 u := doneMu 20 u (Nat.le_trans (mu_le u) (by decide))
