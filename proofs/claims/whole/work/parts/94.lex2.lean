/-! Texts cut: a token, and the model's next -/
def p_sg (c : Int32) : Int32 := if c = 59 then 2 else if c = 43 then 3 else if c = 45 then 4 else if c = 42 then 5 else if c = 47 then 6 else if c = 40 then 7 else if c = 41 then 8 else if c = 60 then 9 else if c = 61 then 10 else if c = 62 then 11 else 1
/-- a number of the digits from w -/
def p_nu (t : Nat → Int32) (w : Nat) : Nat → Int32
  | 0 => 0
  | k + 1 => p_nu t w k * 10 + t (w + k) - 48
def p_wk (v : Int32) : Int32 := if v = -1 then 1 else if v < 6 then 16 else v + 6
/-- where a token begins; its kind, its amount; where the next may begin -/
def p_st (t : Nat → Int32) (N a : Nat) : Nat := p_ed p_W t N a
def p_kd (t : Nat → Int32) (N a : Nat) : Int32 := if ¬ p_st t N a < N then 0 else if p_L (t (p_st t N a)) = true then p_wk (p_w t (p_st t N a) (p_ed p_L t N (p_st t N a + 1))) else if p_D (t (p_st t N a)) = true then (if p_ed p_D t N (p_st t N a + 1) - p_st t N a < 5 then 17 else 1) else p_sg (t (p_st t N a))
def p_am (t : Nat → Int32) (N a : Nat) : Int32 := if p_L (t (p_st t N a)) = true then p_w t (p_st t N a) (p_ed p_L t N (p_st t N a + 1)) else p_nu t (p_st t N a) (p_ed p_D t N (p_st t N a + 1) - p_st t N a)
def p_nx (t : Nat → Int32) (N a : Nat) : Nat := if ¬ p_st t N a < N then p_st t N a else if p_L (t (p_st t N a)) = true then p_ed p_L t N (p_st t N a + 1) else if p_D (t (p_st t N a)) = true then p_ed p_D t N (p_st t N a + 1) else p_st t N a + 1
/-- the model's token and value, for a kind and an amount -/
def p_tk (tok val kd am : Int32) : Prop := (kd = 0 ∧ tok = 0) ∨ (kd = 1 ∧ tok = 1) ∨ (kd = 16 ∧ tok = 2 ∧ val = am ∧ 0 ≤ am ∧ am < 6) ∨ ((kd = 12 ∨ kd = 13 ∨ kd = 14 ∨ kd = 15) ∧ tok = 2 ∧ val + 6 = kd) ∨ (kd = 17 ∧ tok = 3 ∧ val = am) ∨ (¬ kd = 1 ∧ tok = 4 ∧ p_sg val = kd)
theorem p_wl_in {t : Nat → Int32} {a b : Nat} : ∀ (ws : List (List Int32)) (k : Nat), p_wl t a b ws k = -1 ∨ ∃ j, k ≤ j ∧ j < k + ws.length ∧ p_wl t a b ws k = nI j
  | [], k => Or.inl rfl
  | w :: r, k => by
    rw [p_wl]
    by_cases h : p_sp t a b w = true
    · rw [if_pos h]
      exact Or.inr ⟨k, Nat.le_refl _, by simp, rfl⟩
    · rw [if_neg h]
      rcases p_wl_in r (k + 1) with q | ⟨j, h1, h2, h3⟩
      · exact Or.inl q
      · exact Or.inr ⟨j, by omega, by simp only [List.length_cons]; omega, h3⟩
theorem p_w_in (t : Nat → Int32) (a b : Nat) : p_w t a b = -1 ∨ ∃ j, j < 10 ∧ p_w t a b = nI j := by
  rcases p_wl_in (t := t) (a := a) (b := b) p_ws 0 with q | ⟨j, h1, h2, h3⟩
  · exact Or.inl q
  · exact Or.inr ⟨j, by simpa [p_ws] using h2, h3⟩
theorem p_wk_ok : ∀ j, j < 10 → (j < 6 ∧ p_wk (nI j) = 16 ∧ 0 ≤ nI j ∧ nI j < 6) ∨ ((p_wk (nI j) = 12 ∨ p_wk (nI j) = 13 ∨ p_wk (nI j) = 14 ∨ p_wk (nI j) = 15) ∧ nI j + 6 = p_wk (nI j)) := by decide +kernel
/-- what next leaves of the model's head -/
def p_fr (I I' : Nat → Nat → Int32) : Prop := (∀ q, q ≠ 71 → I' q = I q) ∧ ∀ k, k ≠ 12 → k ≠ 13 → k ≠ 14 → k ≠ 15 → I' 71 k = I 71 k
theorem p_fr.rf (I : Nat → Nat → Int32) : p_fr I I := ⟨fun _ _ => rfl, fun _ _ _ _ _ => rfl⟩
theorem p_fr.u {I I' : Nat → Nat → Int32} (h : p_fr I I') (k : Nat) (x : Int32) (hk : k = 12 ∨ k = 13 ∨ k = 14 ∨ k = 15) : p_fr I (z_u I' 71 k x) := ⟨fun q hq => by rw [z_u_ne hq]; exact h.1 q hq, fun j a b c d => by rw [z_u_at, if_neg (by omega)]; exact h.2 j a b c d⟩
section LEX2
variable {l : Launch} {n : Nat} {K L : Nat → Nat} {I : Nat → Nat → Int32} {J : Nat → Nat → Int64} {G : Nat → Nat → Value} {N : Nat}
/-- a sign of the tape, or nothing behind it -/
abbrev p_rw (I : Nat → Nat → Int32) (N k : Nat) : Int32 := if k < N then I 77 k else -1
theorem c172f (hS : SS K L G) {I' : Nat → Nat → Int32} (hf : p_fr I I') (hN : I 71 11 = nI N) (hN8 : N ≤ 800) {k : Nat} (hk : k ≤ 800) : z_D l 0 172 [.ref 71, .int (nI k)] (n, K, L, I', J, G) (some (.int (p_rw I N k))) (n, K, L, I', J, G) := by
  have q := c172 (l := l) (n := n) (I := I') (J := J) (N := N) (k := k) hS (by rw [hf.2 _ (by decide) (by decide) (by decide) (by decide)]; exact hN) hN8 (by omega)
  rw [hf.1 77 (by decide)] at q
  exact q
theorem p_rw_W {k : Nat} (hk : k ≤ N) : (p_rw I N k = 32 ∨ p_rw I N k = 10) ↔ (k < N ∧ p_W (I 77 k) = true) := by
  unfold p_rw p_W
  rw [decide_eq_true_eq]
  by_cases h : k < N
  · rw [if_pos h]; simp [h]
  · rw [if_neg h]; simp [h]
theorem p_rw_L {k : Nat} : ((97 ≤ p_rw I N k ∧ p_rw I N k ≤ 122) ∨ (65 ≤ p_rw I N k ∧ p_rw I N k ≤ 90)) ↔ (k < N ∧ p_L (I 77 k) = true) := by
  unfold p_rw p_L
  rw [decide_eq_true_eq]
  by_cases h : k < N
  · rw [if_pos h]; simp [h]
  · rw [if_neg h]; simp [h]
theorem p_rw_D {k : Nat} : (48 ≤ p_rw I N k ∧ p_rw I N k ≤ 57) ↔ (k < N ∧ p_D (I 77 k) = true) := by
  unfold p_rw p_D
  rw [decide_eq_true_eq]
  by_cases h : k < N
  · rw [if_pos h]; simp [h]
  · rw [if_neg h]; simp [h]
theorem c177_w {X : zX} (hS : SS K L G) (hj : X.2.1 = 177) (hd : X.2.2.1 = 2) (hm : X.2.2.2.1 = 0) (hs : X.2.2.2.2.1 = 0) (hN : I 71 11 = nI N) (hN8 : N ≤ 800) {w : Nat} (kk : ∀ I', p_fr I I' → I' 71 12 = nI w → zV X 39 [some (.ref 71), none] [] (n, K, L, I', J, G) 0 0) : ∀ (f a : Nat) (I' : Nat → Nat → Int32), N - a ≤ f → a ≤ N → p_ed p_W (I 77) N a = w → p_fr I I' → I' 71 12 = nI a → zV X 0 [some (.ref 71), none] [] (n, K, L, I', J, G) 0 0 := by
  intro f
  induction f with
  | zero =>
    intro a I' hf ha hw hfr hat
    have hno : ¬ (a < N ∧ p_W (I 77 a) = true) := by omega
    rw [p_ed_n hno] at hw
    subst hw
    have h12 := fun q => hno ((p_rw_W ha).mp q)
    have h1 : ¬ p_rw I N a = 32 := fun q => h12 (Or.inl q)
    have h2 : ¬ p_rw I N a = 10 := fun q => h12 (Or.inr q)
    refine zW_ok hj B177_0 0 _ _ _ _ _ b177_0 ?_
    simp only [B177_0, zW, z_wp1, z_ld, z_f0, z_f1, z_f2, z_f3, List.getElem?_cons_zero, List.getElem?_cons_succ, true_and, and_true, Int32.reduceOfInt, z_i10, z_i01, Int32.reduceLT, Int32.reduceLE, Int32.reduceAdd, Int32.reduceSub, z_set, z_set2, z_kil, List.set_cons_zero, List.set_cons_succ, List.take_succ_cons, List.take_zero, List.drop_succ_cons, List.drop_zero, List.reverse_cons, List.reverse_nil, List.nil_append, List.cons_append, List.getD_cons_succ, List.getD_cons_zero, List.getD_nil, List.length_cons, List.length_nil, List.map_cons, List.map_nil, List.sum_cons, List.sum_nil, Nat.reduceAdd, Nat.reduceLeDiff, Value.category, Option.toList, true_or, or_true, z_ua, ↓reduceIte, Nat.reduceEqDiff, eq_self, not_true_eq_false, not_false_eq_true, false_implies, true_implies, Classical.not_not, Nat.le_refl, Nat.zero_le, sK71 hS, hat]
    try dsimp only
    refine z_callD (c172f hS hfr hN hN8 (show a ≤ 800 by omega)) (by omega) (by omega) (by omega) (Nat.le_of_ble_eq_true rfl) ?_
    try simp only [zW, z_wp1, z_ld, z_f0, z_f1, z_f2, z_f3, List.getElem?_cons_zero, List.getElem?_cons_succ, true_and, and_true, Int32.reduceOfInt, z_i10, z_i01, Int32.reduceLT, Int32.reduceLE, Int32.reduceAdd, Int32.reduceSub, z_set, z_set2, z_kil, List.set_cons_zero, List.set_cons_succ, List.take_succ_cons, List.take_zero, List.drop_succ_cons, List.drop_zero, List.reverse_cons, List.reverse_nil, List.nil_append, List.cons_append, List.getD_cons_succ, List.getD_cons_zero, List.getD_nil, List.length_cons, List.length_nil, List.map_cons, List.map_nil, List.sum_cons, List.sum_nil, Nat.reduceAdd, Nat.reduceLeDiff, Value.category, Option.toList, true_or, or_true, z_ua, ↓reduceIte, Nat.reduceEqDiff, eq_self, not_true_eq_false, not_false_eq_true, false_implies, true_implies, Classical.not_not, Nat.le_refl, Nat.zero_le, sK71 hS, h1, hat]
    try dsimp only
    refine z_callD (c172f hS hfr hN hN8 (show a ≤ 800 by omega)) (by omega) (by omega) (by omega) (Nat.le_of_ble_eq_true rfl) ?_
    try simp only [zW, z_wp1, z_ld, z_f0, z_f1, z_f2, z_f3, List.getElem?_cons_zero, List.getElem?_cons_succ, true_and, and_true, Int32.reduceOfInt, z_i10, z_i01, Int32.reduceLT, Int32.reduceLE, Int32.reduceAdd, Int32.reduceSub, z_set, z_set2, z_kil, List.set_cons_zero, List.set_cons_succ, List.take_succ_cons, List.take_zero, List.drop_succ_cons, List.drop_zero, List.reverse_cons, List.reverse_nil, List.nil_append, List.cons_append, List.getD_cons_succ, List.getD_cons_zero, List.getD_nil, List.length_cons, List.length_nil, List.map_cons, List.map_nil, List.sum_cons, List.sum_nil, Nat.reduceAdd, Nat.reduceLeDiff, Value.category, Option.toList, true_or, or_true, z_ua, ↓reduceIte, Nat.reduceEqDiff, eq_self, not_true_eq_false, not_false_eq_true, false_implies, true_implies, Classical.not_not, Nat.le_refl, Nat.zero_le, sK71 hS, h2]
    try dsimp only
    exact kk I' hfr hat
  | succ f ih =>
    intro a I' hf ha hw hfr hat
    by_cases hy : a < N ∧ p_W (I 77 a) = true
    · rw [p_ed_s hy.1 hy.2] at hw
      have go : zV X 26 [some (.ref 71), none] [] (n, K, L, I', J, G) 0 0 := by
        refine zW_ok hj B177_26 26 _ _ _ _ _ b177_26 ?_
        simp only [B177_26, zW, z_wp1, z_ld, z_f0, z_f1, z_f2, z_f3, List.getElem?_cons_zero, List.getElem?_cons_succ, true_and, and_true, Int32.reduceOfInt, z_i10, z_i01, Int32.reduceLT, Int32.reduceLE, Int32.reduceAdd, Int32.reduceSub, z_set, z_set2, z_kil, List.set_cons_zero, List.set_cons_succ, List.take_succ_cons, List.take_zero, List.drop_succ_cons, List.drop_zero, List.reverse_cons, List.reverse_nil, List.nil_append, List.cons_append, List.getD_cons_succ, List.getD_cons_zero, List.getD_nil, List.length_cons, List.length_nil, List.map_cons, List.map_nil, List.sum_cons, List.sum_nil, Nat.reduceAdd, Nat.reduceLeDiff, Value.category, Option.toList, true_or, or_true, z_ua, ↓reduceIte, Nat.reduceEqDiff, eq_self, not_true_eq_false, not_false_eq_true, false_implies, true_implies, Classical.not_not, Nat.le_refl, Nat.zero_le, sK71 hS, hat, nI_1]
        try dsimp only
        exact ih (a + 1) _ (by omega) (by omega) hw (hfr.u _ _ (Or.inl rfl)) (by rw [z_u_at, if_pos rfl])
      have h12 := (p_rw_W ha).mpr hy
      refine zW_ok hj B177_0 0 _ _ _ _ _ b177_0 ?_
      simp only [B177_0, zW, z_wp1, z_ld, z_f0, z_f1, z_f2, z_f3, List.getElem?_cons_zero, List.getElem?_cons_succ, true_and, and_true, Int32.reduceOfInt, z_i10, z_i01, Int32.reduceLT, Int32.reduceLE, Int32.reduceAdd, Int32.reduceSub, z_set, z_set2, z_kil, List.set_cons_zero, List.set_cons_succ, List.take_succ_cons, List.take_zero, List.drop_succ_cons, List.drop_zero, List.reverse_cons, List.reverse_nil, List.nil_append, List.cons_append, List.getD_cons_succ, List.getD_cons_zero, List.getD_nil, List.length_cons, List.length_nil, List.map_cons, List.map_nil, List.sum_cons, List.sum_nil, Nat.reduceAdd, Nat.reduceLeDiff, Value.category, Option.toList, true_or, or_true, z_ua, ↓reduceIte, Nat.reduceEqDiff, eq_self, not_true_eq_false, not_false_eq_true, false_implies, true_implies, Classical.not_not, Nat.le_refl, Nat.zero_le, sK71 hS, hat]
      try dsimp only
      by_cases h1 : p_rw I N a = 32
      · refine z_callD (c172f hS hfr hN hN8 (show a ≤ 800 by omega)) (by omega) (by omega) (by omega) (Nat.le_of_ble_eq_true rfl) ?_
        try simp only [zW, z_wp1, z_ld, z_f0, z_f1, z_f2, z_f3, List.getElem?_cons_zero, List.getElem?_cons_succ, true_and, and_true, Int32.reduceOfInt, z_i10, z_i01, Int32.reduceLT, Int32.reduceLE, Int32.reduceAdd, Int32.reduceSub, z_set, z_set2, z_kil, List.set_cons_zero, List.set_cons_succ, List.take_succ_cons, List.take_zero, List.drop_succ_cons, List.drop_zero, List.reverse_cons, List.reverse_nil, List.nil_append, List.cons_append, List.getD_cons_succ, List.getD_cons_zero, List.getD_nil, List.length_cons, List.length_nil, List.map_cons, List.map_nil, List.sum_cons, List.sum_nil, Nat.reduceAdd, Nat.reduceLeDiff, Value.category, Option.toList, true_or, or_true, z_ua, ↓reduceIte, Nat.reduceEqDiff, eq_self, not_true_eq_false, not_false_eq_true, false_implies, true_implies, Classical.not_not, Nat.le_refl, Nat.zero_le, sK71 hS, h1]
        try dsimp only
        exact go
      · have h2 : p_rw I N a = 10 := h12.elim (fun q => absurd q h1) id
        refine z_callD (c172f hS hfr hN hN8 (show a ≤ 800 by omega)) (by omega) (by omega) (by omega) (Nat.le_of_ble_eq_true rfl) ?_
        try simp only [zW, z_wp1, z_ld, z_f0, z_f1, z_f2, z_f3, List.getElem?_cons_zero, List.getElem?_cons_succ, true_and, and_true, Int32.reduceOfInt, z_i10, z_i01, Int32.reduceLT, Int32.reduceLE, Int32.reduceAdd, Int32.reduceSub, z_set, z_set2, z_kil, List.set_cons_zero, List.set_cons_succ, List.take_succ_cons, List.take_zero, List.drop_succ_cons, List.drop_zero, List.reverse_cons, List.reverse_nil, List.nil_append, List.cons_append, List.getD_cons_succ, List.getD_cons_zero, List.getD_nil, List.length_cons, List.length_nil, List.map_cons, List.map_nil, List.sum_cons, List.sum_nil, Nat.reduceAdd, Nat.reduceLeDiff, Value.category, Option.toList, true_or, or_true, z_ua, ↓reduceIte, Nat.reduceEqDiff, eq_self, not_true_eq_false, not_false_eq_true, false_implies, true_implies, Classical.not_not, Nat.le_refl, Nat.zero_le, sK71 hS, h1, hat]
        try dsimp only
        refine z_callD (c172f hS hfr hN hN8 (show a ≤ 800 by omega)) (by omega) (by omega) (by omega) (Nat.le_of_ble_eq_true rfl) ?_
        try simp only [zW, z_wp1, z_ld, z_f0, z_f1, z_f2, z_f3, List.getElem?_cons_zero, List.getElem?_cons_succ, true_and, and_true, Int32.reduceOfInt, z_i10, z_i01, Int32.reduceLT, Int32.reduceLE, Int32.reduceAdd, Int32.reduceSub, z_set, z_set2, z_kil, List.set_cons_zero, List.set_cons_succ, List.take_succ_cons, List.take_zero, List.drop_succ_cons, List.drop_zero, List.reverse_cons, List.reverse_nil, List.nil_append, List.cons_append, List.getD_cons_succ, List.getD_cons_zero, List.getD_nil, List.length_cons, List.length_nil, List.map_cons, List.map_nil, List.sum_cons, List.sum_nil, Nat.reduceAdd, Nat.reduceLeDiff, Value.category, Option.toList, true_or, or_true, z_ua, ↓reduceIte, Nat.reduceEqDiff, eq_self, not_true_eq_false, not_false_eq_true, false_implies, true_implies, Classical.not_not, Nat.le_refl, Nat.zero_le, sK71 hS, h2]
        try dsimp only
        exact go
    · rw [p_ed_n hy] at hw
      subst hw
      have h12 := fun q => hy ((p_rw_W ha).mp q)
      have h1 : ¬ p_rw I N a = 32 := fun q => h12 (Or.inl q)
      have h2 : ¬ p_rw I N a = 10 := fun q => h12 (Or.inr q)
      refine zW_ok hj B177_0 0 _ _ _ _ _ b177_0 ?_
      simp only [B177_0, zW, z_wp1, z_ld, z_f0, z_f1, z_f2, z_f3, List.getElem?_cons_zero, List.getElem?_cons_succ, true_and, and_true, Int32.reduceOfInt, z_i10, z_i01, Int32.reduceLT, Int32.reduceLE, Int32.reduceAdd, Int32.reduceSub, z_set, z_set2, z_kil, List.set_cons_zero, List.set_cons_succ, List.take_succ_cons, List.take_zero, List.drop_succ_cons, List.drop_zero, List.reverse_cons, List.reverse_nil, List.nil_append, List.cons_append, List.getD_cons_succ, List.getD_cons_zero, List.getD_nil, List.length_cons, List.length_nil, List.map_cons, List.map_nil, List.sum_cons, List.sum_nil, Nat.reduceAdd, Nat.reduceLeDiff, Value.category, Option.toList, true_or, or_true, z_ua, ↓reduceIte, Nat.reduceEqDiff, eq_self, not_true_eq_false, not_false_eq_true, false_implies, true_implies, Classical.not_not, Nat.le_refl, Nat.zero_le, sK71 hS, hat]
      try dsimp only
      refine z_callD (c172f hS hfr hN hN8 (show a ≤ 800 by omega)) (by omega) (by omega) (by omega) (Nat.le_of_ble_eq_true rfl) ?_
      try simp only [zW, z_wp1, z_ld, z_f0, z_f1, z_f2, z_f3, List.getElem?_cons_zero, List.getElem?_cons_succ, true_and, and_true, Int32.reduceOfInt, z_i10, z_i01, Int32.reduceLT, Int32.reduceLE, Int32.reduceAdd, Int32.reduceSub, z_set, z_set2, z_kil, List.set_cons_zero, List.set_cons_succ, List.take_succ_cons, List.take_zero, List.drop_succ_cons, List.drop_zero, List.reverse_cons, List.reverse_nil, List.nil_append, List.cons_append, List.getD_cons_succ, List.getD_cons_zero, List.getD_nil, List.length_cons, List.length_nil, List.map_cons, List.map_nil, List.sum_cons, List.sum_nil, Nat.reduceAdd, Nat.reduceLeDiff, Value.category, Option.toList, true_or, or_true, z_ua, ↓reduceIte, Nat.reduceEqDiff, eq_self, not_true_eq_false, not_false_eq_true, false_implies, true_implies, Classical.not_not, Nat.le_refl, Nat.zero_le, sK71 hS, h1, hat]
      try dsimp only
      refine z_callD (c172f hS hfr hN hN8 (show a ≤ 800 by omega)) (by omega) (by omega) (by omega) (Nat.le_of_ble_eq_true rfl) ?_
      try simp only [zW, z_wp1, z_ld, z_f0, z_f1, z_f2, z_f3, List.getElem?_cons_zero, List.getElem?_cons_succ, true_and, and_true, Int32.reduceOfInt, z_i10, z_i01, Int32.reduceLT, Int32.reduceLE, Int32.reduceAdd, Int32.reduceSub, z_set, z_set2, z_kil, List.set_cons_zero, List.set_cons_succ, List.take_succ_cons, List.take_zero, List.drop_succ_cons, List.drop_zero, List.reverse_cons, List.reverse_nil, List.nil_append, List.cons_append, List.getD_cons_succ, List.getD_cons_zero, List.getD_nil, List.length_cons, List.length_nil, List.map_cons, List.map_nil, List.sum_cons, List.sum_nil, Nat.reduceAdd, Nat.reduceLeDiff, Value.category, Option.toList, true_or, or_true, z_ua, ↓reduceIte, Nat.reduceEqDiff, eq_self, not_true_eq_false, not_false_eq_true, false_implies, true_implies, Classical.not_not, Nat.le_refl, Nat.zero_le, sK71 hS, h2]
      try dsimp only
      exact kk I' hfr hat
theorem c177_l {X : zX} (hS : SS K L G) (hj : X.2.1 = 177) (hd : X.2.2.1 = 2) (hm : X.2.2.2.1 = 0) (hs : X.2.2.2.2.1 = 0) (hN : I 71 11 = nI N) (hN8 : N ≤ 800) {e : Nat} {x1 : Option Value} {I0 : Nat → Nat → Int32} (kk : ∀ I', p_fr I I' → (∀ k, k ≠ 12 → I' 71 k = I0 71 k) → I' 71 12 = nI e → zV X 123 [some (.ref 71), x1] [] (n, K, L, I', J, G) 0 0) : ∀ (f a : Nat) (I' : Nat → Nat → Int32), N - a ≤ f → a ≤ N → p_ed p_L (I 77) N a = e → p_fr I I' → (∀ k, k ≠ 12 → I' 71 k = I0 71 k) → I' 71 12 = nI a → zV X 95 [some (.ref 71), x1] [] (n, K, L, I', J, G) 0 0 := by
  have stop : ∀ (a : Nat) (I' : Nat → Nat → Int32), a ≤ N → ¬ (a < N ∧ p_L (I 77 a) = true) → a = e → p_fr I I' → (∀ k, k ≠ 12 → I' 71 k = I0 71 k) → I' 71 12 = nI a → zV X 95 [some (.ref 71), x1] [] (n, K, L, I', J, G) 0 0 := by
    intro a I' ha hno he hfr h0 hat
    subst he
    have hl : ¬ ((97 ≤ p_rw I N a ∧ p_rw I N a ≤ 122) ∨ (65 ≤ p_rw I N a ∧ p_rw I N a ≤ 90)) := fun q => hno (p_rw_L.mp q)
    refine zW_ok hj B177_95 95 _ _ _ _ _ b177_95 ?_
    simp only [B177_95, zW, z_wp1, z_ld, z_f0, z_f1, z_f2, z_f3, List.getElem?_cons_zero, List.getElem?_cons_succ, true_and, and_true, Int32.reduceOfInt, z_i10, z_i01, Int32.reduceLT, Int32.reduceLE, Int32.reduceAdd, Int32.reduceSub, z_set, z_set2, z_kil, List.set_cons_zero, List.set_cons_succ, List.take_succ_cons, List.take_zero, List.drop_succ_cons, List.drop_zero, List.reverse_cons, List.reverse_nil, List.nil_append, List.cons_append, List.getD_cons_succ, List.getD_cons_zero, List.getD_nil, List.length_cons, List.length_nil, List.map_cons, List.map_nil, List.sum_cons, List.sum_nil, Nat.reduceAdd, Nat.reduceLeDiff, Value.category, Option.toList, true_or, or_true, z_ua, ↓reduceIte, Nat.reduceEqDiff, eq_self, not_true_eq_false, not_false_eq_true, false_implies, true_implies, Classical.not_not, Nat.le_refl, Nat.zero_le, sK71 hS, hat]
    try dsimp only
    refine z_callD (c172f hS hfr hN hN8 (show a ≤ 800 by omega)) (by omega) (by omega) (by omega) (Nat.le_of_ble_eq_true rfl) ?_
    try simp only [zW, z_wp1, z_ld, z_f0, z_f1, z_f2, z_f3, List.getElem?_cons_zero, List.getElem?_cons_succ, true_and, and_true, Int32.reduceOfInt, z_i10, z_i01, Int32.reduceLT, Int32.reduceLE, Int32.reduceAdd, Int32.reduceSub, z_set, z_set2, z_kil, List.set_cons_zero, List.set_cons_succ, List.take_succ_cons, List.take_zero, List.drop_succ_cons, List.drop_zero, List.reverse_cons, List.reverse_nil, List.nil_append, List.cons_append, List.getD_cons_succ, List.getD_cons_zero, List.getD_nil, List.length_cons, List.length_nil, List.map_cons, List.map_nil, List.sum_cons, List.sum_nil, Nat.reduceAdd, Nat.reduceLeDiff, Value.category, Option.toList, true_or, or_true, z_ua, ↓reduceIte, Nat.reduceEqDiff, eq_self, not_true_eq_false, not_false_eq_true, false_implies, true_implies, Classical.not_not, Nat.le_refl, Nat.zero_le, sK71 hS]
    try dsimp only
    refine z_callD (c173 (I := I') (J := J) hS (p_rw I N a)) (by omega) (by omega) (by omega) (Nat.le_of_ble_eq_true rfl) ?_
    try simp only [zW, z_wp1, z_ld, z_f0, z_f1, z_f2, z_f3, List.getElem?_cons_zero, List.getElem?_cons_succ, true_and, and_true, Int32.reduceOfInt, z_i10, z_i01, Int32.reduceLT, Int32.reduceLE, Int32.reduceAdd, Int32.reduceSub, z_set, z_set2, z_kil, List.set_cons_zero, List.set_cons_succ, List.take_succ_cons, List.take_zero, List.drop_succ_cons, List.drop_zero, List.reverse_cons, List.reverse_nil, List.nil_append, List.cons_append, List.getD_cons_succ, List.getD_cons_zero, List.getD_nil, List.length_cons, List.length_nil, List.map_cons, List.map_nil, List.sum_cons, List.sum_nil, Nat.reduceAdd, Nat.reduceLeDiff, Value.category, Option.toList, true_or, or_true, z_ua, ↓reduceIte, Nat.reduceEqDiff, eq_self, not_true_eq_false, not_false_eq_true, false_implies, true_implies, Classical.not_not, Nat.le_refl, Nat.zero_le, sK71 hS, z_b0 hl]
    try dsimp only
    exact kk I' hfr h0 hat
  intro f
  induction f with
  | zero =>
    intro a I' hf ha he hfr h0 hat
    have hno : ¬ (a < N ∧ p_L (I 77 a) = true) := by omega
    exact stop a I' ha hno (by rw [p_ed_n hno] at he; exact he) hfr h0 hat
  | succ f ih =>
    intro a I' hf ha he hfr h0 hat
    by_cases hy : a < N ∧ p_L (I 77 a) = true
    · rw [p_ed_s hy.1 hy.2] at he
      have hl := (p_rw_L (I := I) (N := N) (k := a)).mpr hy
      refine zW_ok hj B177_95 95 _ _ _ _ _ b177_95 ?_
      simp only [B177_95, zW, z_wp1, z_ld, z_f0, z_f1, z_f2, z_f3, List.getElem?_cons_zero, List.getElem?_cons_succ, true_and, and_true, Int32.reduceOfInt, z_i10, z_i01, Int32.reduceLT, Int32.reduceLE, Int32.reduceAdd, Int32.reduceSub, z_set, z_set2, z_kil, List.set_cons_zero, List.set_cons_succ, List.take_succ_cons, List.take_zero, List.drop_succ_cons, List.drop_zero, List.reverse_cons, List.reverse_nil, List.nil_append, List.cons_append, List.getD_cons_succ, List.getD_cons_zero, List.getD_nil, List.length_cons, List.length_nil, List.map_cons, List.map_nil, List.sum_cons, List.sum_nil, Nat.reduceAdd, Nat.reduceLeDiff, Value.category, Option.toList, true_or, or_true, z_ua, ↓reduceIte, Nat.reduceEqDiff, eq_self, not_true_eq_false, not_false_eq_true, false_implies, true_implies, Classical.not_not, Nat.le_refl, Nat.zero_le, sK71 hS, hat]
      try dsimp only
      refine z_callD (c172f hS hfr hN hN8 (show a ≤ 800 by omega)) (by omega) (by omega) (by omega) (Nat.le_of_ble_eq_true rfl) ?_
      try simp only [zW, z_wp1, z_ld, z_f0, z_f1, z_f2, z_f3, List.getElem?_cons_zero, List.getElem?_cons_succ, true_and, and_true, Int32.reduceOfInt, z_i10, z_i01, Int32.reduceLT, Int32.reduceLE, Int32.reduceAdd, Int32.reduceSub, z_set, z_set2, z_kil, List.set_cons_zero, List.set_cons_succ, List.take_succ_cons, List.take_zero, List.drop_succ_cons, List.drop_zero, List.reverse_cons, List.reverse_nil, List.nil_append, List.cons_append, List.getD_cons_succ, List.getD_cons_zero, List.getD_nil, List.length_cons, List.length_nil, List.map_cons, List.map_nil, List.sum_cons, List.sum_nil, Nat.reduceAdd, Nat.reduceLeDiff, Value.category, Option.toList, true_or, or_true, z_ua, ↓reduceIte, Nat.reduceEqDiff, eq_self, not_true_eq_false, not_false_eq_true, false_implies, true_implies, Classical.not_not, Nat.le_refl, Nat.zero_le, sK71 hS]
      try dsimp only
      refine z_callD (c173 (I := I') (J := J) hS (p_rw I N a)) (by omega) (by omega) (by omega) (Nat.le_of_ble_eq_true rfl) ?_
      try simp only [zW, z_wp1, z_ld, z_f0, z_f1, z_f2, z_f3, List.getElem?_cons_zero, List.getElem?_cons_succ, true_and, and_true, Int32.reduceOfInt, z_i10, z_i01, Int32.reduceLT, Int32.reduceLE, Int32.reduceAdd, Int32.reduceSub, z_set, z_set2, z_kil, List.set_cons_zero, List.set_cons_succ, List.take_succ_cons, List.take_zero, List.drop_succ_cons, List.drop_zero, List.reverse_cons, List.reverse_nil, List.nil_append, List.cons_append, List.getD_cons_succ, List.getD_cons_zero, List.getD_nil, List.length_cons, List.length_nil, List.map_cons, List.map_nil, List.sum_cons, List.sum_nil, Nat.reduceAdd, Nat.reduceLeDiff, Value.category, Option.toList, true_or, or_true, z_ua, ↓reduceIte, Nat.reduceEqDiff, eq_self, not_true_eq_false, not_false_eq_true, false_implies, true_implies, Classical.not_not, Nat.le_refl, Nat.zero_le, sK71 hS, z_b1 hl, hat, nI_1]
      try dsimp only
      exact ih (a + 1) _ (by omega) (by omega) he (hfr.u _ _ (Or.inl rfl)) (fun k hk => by rw [z_u_at, if_neg hk]; exact h0 k hk) (by rw [z_u_at, if_pos rfl])
    · exact stop a I' ha hy (by rw [p_ed_n hy] at he; exact he) hfr h0 hat
end LEX2
