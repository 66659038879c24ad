def cj (v : MS) : Int32 := if mV v (Int32.toNatClampNeg 5) = 1 then 1 else 0
def pj (v : MS) : Int32 := if mV v (Int32.toNatClampNeg 6) = 1 then 1 else 0
theorem rule_top (v : MS) : pX1_rule v = pX1_rule_32 v (pj v) (cj v) := by
  unfold pX1_rule pX1_rule_15 cj pj
  by_cases h1 : mV v (Int32.toNatClampNeg 5) = 1 <;> by_cases h2 : mV v (Int32.toNatClampNeg 6) = 1 <;> simp only [h1, h2, if_true, if_false, ↓reduceIte]
def C1 (v : MS) : Prop := ¬ ml v ≤ 0 ∧ ¬ pX1_isBad v (mr v) = 0
def C2 (v : MS) : Prop := (ml v = 3 ∨ ml v = 4) ∧ cj v = 0
def C3 (v : MS) : Prop := mv v = 6 ∧ (pj v = 0 ∨ ¬ ml v = 4)
def C4 (v : MS) : Prop := ma v = 1 ∧ ¬ cj v = 0 ∧ ¬ 150 < pX1_size (mV v (Int32.toNatClampNeg 0))
def C5 (v : MS) : Prop := ma v = 2 ∧ ¬ cj v = 0 ∧ ¬ 100 < pX1_size (mV v (Int32.toNatClampNeg 0))
def C6 (v : MS) : Prop := ¬ mg v = 0 ∧ ml v = 4 ∧ ¬ pj v = 0 ∧ ¬ 80 < pX1_size (mV v (Int32.toNatClampNeg 1))
def C7 (v : MS) : Prop := ¬ mv v ≤ 0 ∧ ¬ 4 ≤ mv v ∧ ¬ 400 < pX1_apart v
def C8 (v : MS) : Prop := mv v = 5 ∧ ¬ 20 < pX1_apart v
def C9 (v : MS) : Prop := mv v = 5 ∧ ¬ pX1_apart v ≤ 400
def C10 (v : MS) : Prop := mv v = 2 ∧ ¬ mV v (Int32.toNatClampNeg 4) ≤ 400
theorem r1y {v : MS} (h : C1 v) : pX1_rule_32 v (pj v) (cj v) = 1 := by unfold pX1_rule_32; rw [if_neg h.1, if_neg h.2]
theorem r1n {v : MS} (h : ¬ C1 v) : pX1_rule_32 v (pj v) (cj v) = pX1_rule_53 v (cj v) (pj v) := by
  unfold pX1_rule_32
  by_cases h1 : ml v ≤ 0
  · rw [if_pos h1]
  · rw [if_neg h1]
    by_cases h2 : pX1_isBad v (mr v) = 0
    · rw [if_pos h2]
    · exact absurd ⟨h1, h2⟩ h
theorem r2y {v : MS} (h : C2 v) : pX1_rule_53 v (cj v) (pj v) = 2 := by
  unfold pX1_rule_53
  by_cases h1 : ml v = 3
  · rw [if_pos h1, if_pos h.2]
  · rw [if_neg h1]
    by_cases h2 : ml v = 4
    · rw [if_pos h2, if_pos h.2]
    · exact absurd h.1 (fun q => q.elim h1 h2)
theorem r2n {v : MS} (h : ¬ C2 v) : pX1_rule_53 v (cj v) (pj v) = pX1_rule_75 v (cj v) (pj v) := by
  unfold pX1_rule_53
  by_cases h1 : ml v = 3
  · rw [if_pos h1]
    by_cases h3 : cj v = 0
    · exact absurd ⟨Or.inl h1, h3⟩ h
    · rw [if_neg h3]
  · rw [if_neg h1]
    by_cases h2 : ml v = 4
    · rw [if_pos h2]
      by_cases h3 : cj v = 0
      · exact absurd ⟨Or.inr h2, h3⟩ h
      · rw [if_neg h3]
    · rw [if_neg h2]
theorem r3y {v : MS} (h : C3 v) : pX1_rule_75 v (cj v) (pj v) = 3 := by
  unfold pX1_rule_75
  rw [if_pos h.1]
  by_cases h1 : pj v = 0
  · rw [if_pos h1]
  · rw [if_neg h1]
    by_cases h2 : ml v = 4
    · exact absurd h.2 (fun q => q.elim h1 (fun z => z h2))
    · rw [if_neg h2]
theorem r3n {v : MS} (h : ¬ C3 v) : pX1_rule_75 v (cj v) (pj v) = pX1_rule_98 v (cj v) (pj v) := by
  unfold pX1_rule_75
  by_cases h0 : mv v = 6
  · rw [if_pos h0]
    by_cases h1 : pj v = 0
    · exact absurd ⟨h0, Or.inl h1⟩ h
    · rw [if_neg h1]
      by_cases h2 : ml v = 4
      · rw [if_pos h2]
      · exact absurd ⟨h0, Or.inr h2⟩ h
  · rw [if_neg h0]
theorem r4y {v : MS} (h : C4 v) : pX1_rule_98 v (cj v) (pj v) = 4 := by unfold pX1_rule_98; rw [if_pos h.1, if_neg h.2.1, if_neg h.2.2]
theorem r4n {v : MS} (h : ¬ C4 v) : pX1_rule_98 v (cj v) (pj v) = pX1_rule_127 v (cj v) (pj v) := by
  unfold pX1_rule_98
  by_cases h0 : ma v = 1
  · rw [if_pos h0]
    by_cases h1 : cj v = 0
    · rw [if_pos h1]
    · rw [if_neg h1]
      by_cases h2 : 150 < pX1_size (mV v (Int32.toNatClampNeg 0))
      · rw [if_pos h2]
      · exact absurd ⟨h0, h1, h2⟩ h
  · rw [if_neg h0]
theorem r5y {v : MS} (h : C5 v) : pX1_rule_127 v (cj v) (pj v) = 5 := by unfold pX1_rule_127; rw [if_pos h.1, if_neg h.2.1, if_neg h.2.2]
theorem r5n {v : MS} (h : ¬ C5 v) : pX1_rule_127 v (cj v) (pj v) = pX1_rule_155 v (cj v) (pj v) := by
  unfold pX1_rule_127
  by_cases h0 : ma v = 2
  · rw [if_pos h0]
    by_cases h1 : cj v = 0
    · rw [if_pos h1]
    · rw [if_neg h1]
      by_cases h2 : 100 < pX1_size (mV v (Int32.toNatClampNeg 0))
      · rw [if_pos h2]
      · exact absurd ⟨h0, h1, h2⟩ h
  · rw [if_neg h0]
theorem r6y {v : MS} (h : C6 v) : pX1_rule_155 v (cj v) (pj v) = 6 := by unfold pX1_rule_155; rw [if_neg h.1, if_pos h.2.1, if_neg h.2.2.1, if_neg h.2.2.2]
theorem r6n {v : MS} (h : ¬ C6 v) : pX1_rule_155 v (cj v) (pj v) = pX1_rule_191 v (cj v) (pj v) := by
  unfold pX1_rule_155
  by_cases h0 : mg v = 0
  · rw [if_pos h0]
  · rw [if_neg h0]
    by_cases h1 : ml v = 4
    · rw [if_pos h1]
      by_cases h2 : pj v = 0
      · rw [if_pos h2]
      · rw [if_neg h2]
        by_cases h3 : 80 < pX1_size (mV v (Int32.toNatClampNeg 1))
        · rw [if_pos h3]
        · exact absurd ⟨h0, h1, h2, h3⟩ h
    · rw [if_neg h1]
theorem r7y {v : MS} (h : C7 v) : pX1_rule_191 v (cj v) (pj v) = 7 := by unfold pX1_rule_191; rw [if_neg h.1, if_neg h.2.1, if_neg h.2.2]
theorem r7n {v : MS} (h : ¬ C7 v) : pX1_rule_191 v (cj v) (pj v) = pX1_rule_219 v (cj v) (pj v) := by
  unfold pX1_rule_191
  by_cases h0 : mv v ≤ 0
  · rw [if_pos h0]
  · rw [if_neg h0]
    by_cases h1 : 4 ≤ mv v
    · rw [if_pos h1]
    · rw [if_neg h1]
      by_cases h2 : 400 < pX1_apart v
      · rw [if_pos h2]
      · exact absurd ⟨h0, h1, h2⟩ h
theorem r8y {v : MS} (h : C8 v) : pX1_rule_219 v (cj v) (pj v) = 8 := by unfold pX1_rule_219; rw [if_pos h.1, if_neg h.2]
theorem r8n {v : MS} (h : ¬ C8 v) : pX1_rule_219 v (cj v) (pj v) = pX1_rule_239 v (cj v) (pj v) := by
  unfold pX1_rule_219
  by_cases h0 : mv v = 5
  · rw [if_pos h0]
    by_cases h1 : 20 < pX1_apart v
    · rw [if_pos h1]
    · exact absurd ⟨h0, h1⟩ h
  · rw [if_neg h0]
theorem r9y {v : MS} (h : C9 v) : pX1_rule_239 v (cj v) (pj v) = 9 := by unfold pX1_rule_239; rw [if_pos h.1, if_neg h.2]
theorem r9n {v : MS} (h : ¬ C9 v) : pX1_rule_239 v (cj v) (pj v) = pX1_rule_260 v (cj v) (pj v) := by
  unfold pX1_rule_239
  by_cases h0 : mv v = 5
  · rw [if_pos h0]
    by_cases h1 : pX1_apart v ≤ 400
    · rw [if_pos h1]
    · exact absurd ⟨h0, h1⟩ h
  · rw [if_neg h0]
theorem r10y {v : MS} (h : C10 v) : pX1_rule_260 v (cj v) (pj v) = 10 := by unfold pX1_rule_260; rw [if_pos h.1, if_neg h.2]
theorem r10n {v : MS} (h : ¬ C10 v) : pX1_rule_260 v (cj v) (pj v) = 0 := by
  unfold pX1_rule_260
  by_cases h0 : mv v = 2
  · rw [if_pos h0]
    by_cases h1 : mV v (Int32.toNatClampNeg 4) ≤ 400
    · rw [if_pos h1]
    · exact absurd ⟨h0, h1⟩ h
  · rw [if_neg h0]
