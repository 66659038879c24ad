theorem sim_press {u : XS} {v : MS} {n : Nat} (h : RR u v) (hI : InvX u) (hM : InvM n v) (hn : n ≤ 1000000) (a1 : Int32) : SimT (pX0_press u a1) u (pX1_press v a1) := sorry
theorem sim_sense {u : XS} {v : MS} {n : Nat} (h : RR u v) (hI : InvX u) (hM : InvM n v) (hn : n ≤ 1000000) (a1 a2 : Int32) : SimT (pX0_sense u a1 a2) u (pX1_sense v a1 a2) := sorry
theorem sim_channel {u : XS} {v : MS} {n : Nat} (h : RR u v) (hI : InvX u) (hM : InvM n v) (hn : n ≤ 1000000) (a1 a2 : Int32) (hb : bz a2) : SimT (pX0_channel u a1 a2) u (pX1_channel v a1 a2) := sorry
theorem sim_step {u : XS} {v : MS} {n : Nat} (h : RR u v) (hI : InvX u) (hM : InvM n v) (hn : n ≤ 1000000) (a1 : Int32) : SimT (pX0_step u a1) u (pX1_step v a1) := sorry
theorem sim_mode {u : XS} {v : MS} {n : Nat} (h : RR u v) (hI : InvX u) (hM : InvM n v) (hn : n ≤ 1000000) (a1 : Int32) : SimT (pX0_mode u a1) u (pX1_mode v a1) := sorry
theorem sim_armed {u : XS} {v : MS} {n : Nat} (h : RR u v) (hI : InvX u) (hM : InvM n v) (hn : n ≤ 1000000) (a1 : Int32) : SimT (pX0_armed u a1) u (pX1_armed v a1) := sorry
theorem sim_measure {u : XS} {v : MS} {n : Nat} (h : RR u v) (hI : InvX u) (hM : InvM n v) (hn : n ≤ 1000000) (a1 : Int32) : SimT (pX0_measure u a1) u (pX1_measure v a1) := sorry
theorem sim_engage {u : XS} {v : MS} {n : Nat} (h : RR u v) (hI : InvX u) (hM : InvM n v) (hn : n ≤ 1000000) : (pX0_engage u).1 = (pX1_engage v).1 ∧ RR (pX0_engage u).2 (pX1_engage v).2 := sorry
theorem sim_disconnect {u : XS} {v : MS} {n : Nat} (h : RR u v) (hI : InvX u) (hM : InvM n v) (hn : n ≤ 1000000) : (pX0_disconnect u).1 = (pX1_disconnect v).1 ∧ RR (pX0_disconnect u).2 (pX1_disconnect v).2 := sorry
theorem sim_shown {u : XS} {v : MS} {n : Nat} (h : RR u v) (hI : InvX u) (hM : InvM n v) (hn : n ≤ 1000000) : pX0_shown u = (pX1_shown v).1 ∧ RR u (pX1_shown v).2 := sorry
theorem sim_kept {u : XS} {v : MS} {n : Nat} (h : RR u v) (hI : InvX u) (hM : InvM n v) (hn : n ≤ 1000000) (a1 a2 : Int32) : pX0_kept u a1 a2 = (pX1_kept v a1 a2).1 ∧ RR u (pX1_kept v a1 a2).2 := sorry
theorem sim_init : RR iX iM := sorry
