/-! The class: the table's small methods, the codes' small methods, knownBy -/
/-- the table's code is cd, the reader's the other one -/
def XC (G : Nat → Nat → Value) (cd : Nat) : Prop := (cd = 12 ∨ cd = 65) ∧ G 10 4 = .ref cd ∧ G 60 1 = .ref (77 - cd)
/-- the latest value at a slot among the first t tellings -/
def x_kn (sl vl : Nat → Int32) (s : Nat) : Nat → Int32
  | 0 => -1
  | t + 1 => if sl t = nI s then vl t else x_kn sl vl s t
/-- how many tellings, from i on, stand ahead of the first that is after a day -/
def x_pl (dy : Nat → Int32) (day : Int32) : Nat → Nat → Nat
  | 0, i => i
  | k + 1, i => if dy i ≤ day then x_pl dy day k (i + 1) else i
section X2
variable {l : Launch} {n : Nat} {K L : Nat → Nat} {I : Nat → Nat → Int32} {J : Nat → Nat → Int64} {G : Nat → Nat → Value} {cd : Nat}
theorem c46_loop {X : zX} (hS : SS K L G) (hj : X.2.1 = 46) {p c : Nat} {day : Int32} (hp : p = 11 ∨ p = 69 ∨ p = 70) (hc : I 6 3 = nI c) (hc4 : c ≤ 400) (hsl : ∀ t, t < c → ∃ s, s < 192 ∧ I 7 t = nI s) (hQ : ∀ r h', (r = none ∧ ∃ I', h' = (n, K, L, I', J, G) ∧ (∀ q, q ≠ p → I' q = I q) ∧ ∀ s, s < 192 → I' p s = x_kn (I 7) (I 8) s (x_pl (I 9) day c 0)) → X.2.2.2.2.2.2 r h') : ∀ (k t : Nat) (I' : Nat → Nat → Int32), t + k = c → x_pl (I 9) day k t = x_pl (I 9) day c 0 → (∀ q, q ≠ p → I' q = I q) → (∀ s, s < 192 → I' p s = x_kn (I 7) (I 8) s t) →
      zV X 7 [some (.ref 6), some (.int day), some (.ref p), some (.int (nI t))] [] (n, K, L, I', J, G) 0 0
  | 0, t, I', ht, hx, ho, hg => by
    have e : t = c := by omega
    subst e
    rw [x_pl] at hx
    have g6 : I' 6 = I 6 := ho 6 (by omega)
    refine zW_ok hj B46_7 7 _ _ _ _ _ b46_7 ?_
    simp only [B46_7, zW, z_wp1, z_ld, z_f0, z_f1, z_f2, z_f3, List.getElem?_cons_zero, List.getElem?_cons_succ, true_and, and_true, Int32.reduceOfInt, z_i10, z_i01, Int32.reduceLT, Int32.reduceLE, Int32.reduceAdd, Int32.reduceSub, z_set, z_set2, z_kil, List.set_cons_zero, List.set_cons_succ, List.take_succ_cons, List.take_zero, List.drop_succ_cons, List.drop_zero, List.reverse_cons, List.reverse_nil, List.nil_append, List.cons_append, List.getD_cons_succ, List.getD_cons_zero, List.getD_nil, List.length_cons, List.length_nil, List.map_cons, List.map_nil, List.sum_cons, List.sum_nil, Nat.reduceAdd, Nat.reduceLeDiff, Value.category, Option.toList, true_or, or_true, z_ua, ↓reduceIte, Nat.reduceEqDiff, eq_self, not_true_eq_false, not_false_eq_true, false_implies, true_implies, Classical.not_not, Nat.le_refl, Nat.zero_le, sK6 hS, g6, hc]
    try dsimp only
    refine ⟨fun _ => ?_, fun q => absurd (nI_le (Nat.le_refl _) (by omega)) q⟩
    refine zW_ok hj B46_45 45 _ _ _ _ _ b46_45 ?_
    simp only [B46_45, zW, z_wp1, z_ld, z_f0, z_f1, z_f2, z_f3, List.getElem?_cons_zero, List.getElem?_cons_succ, true_and, and_true, Int32.reduceOfInt, z_i10, z_i01, Int32.reduceLT, Int32.reduceLE, Int32.reduceAdd, Int32.reduceSub, z_set, z_set2, z_kil, List.set_cons_zero, List.set_cons_succ, List.take_succ_cons, List.take_zero, List.drop_succ_cons, List.drop_zero, List.reverse_cons, List.reverse_nil, List.nil_append, List.cons_append, List.getD_cons_succ, List.getD_cons_zero, List.getD_nil, List.length_cons, List.length_nil, List.map_cons, List.map_nil, List.sum_cons, List.sum_nil, Nat.reduceAdd, Nat.reduceLeDiff, Value.category, Option.toList, true_or, or_true, z_ua, ↓reduceIte, Nat.reduceEqDiff, eq_self, not_true_eq_false, not_false_eq_true, false_implies, true_implies, Classical.not_not, Nat.le_refl, Nat.zero_le]
    try dsimp only
    exact hQ _ _ ⟨rfl, I', rfl, ho, by rw [← hx]; exact hg⟩
  | k + 1, t, I', ht, hx, ho, hg => by
    have g6 : I' 6 = I 6 := ho 6 (by omega)
    have g7 : I' 7 = I 7 := ho 7 (by omega)
    have g8 : I' 8 = I 8 := ho 8 (by omega)
    have g9 : I' 9 = I 9 := ho 9 (by omega)
    have et : (nI t).toNatClampNeg = t := nI_clamp (by omega)
    have vt : vp_in (nI t) 400 := vp_in_nI (by omega) (by omega)
    obtain ⟨s0, hs0, es0⟩ := hsl t (by omega)
    have es : (nI s0).toNatClampNeg = s0 := nI_clamp (by omega)
    have vs : vp_in (nI s0) 192 := vp_in_nI hs0 (by omega)
    have hKp : K p = 13 := by rcases hp with rfl | rfl | rfl <;> first | exact sK11 hS | exact sK69 hS | exact sK70 hS
    have hLp : L p = 192 := by rcases hp with rfl | rfl | rfl <;> first | exact sL11 hS | exact sL69 hS | exact sL70 hS
    rw [x_pl] at hx
    refine zW_ok hj B46_7 7 _ _ _ _ _ b46_7 ?_
    simp only [B46_7, zW, z_wp1, z_ld, z_f0, z_f1, z_f2, z_f3, List.getElem?_cons_zero, List.getElem?_cons_succ, true_and, and_true, Int32.reduceOfInt, z_i10, z_i01, Int32.reduceLT, Int32.reduceLE, Int32.reduceAdd, Int32.reduceSub, z_set, z_set2, z_kil, List.set_cons_zero, List.set_cons_succ, List.take_succ_cons, List.take_zero, List.drop_succ_cons, List.drop_zero, List.reverse_cons, List.reverse_nil, List.nil_append, List.cons_append, List.getD_cons_succ, List.getD_cons_zero, List.getD_nil, List.length_cons, List.length_nil, List.map_cons, List.map_nil, List.sum_cons, List.sum_nil, Nat.reduceAdd, Nat.reduceLeDiff, Value.category, Option.toList, true_or, or_true, z_ua, ↓reduceIte, Nat.reduceEqDiff, eq_self, not_true_eq_false, not_false_eq_true, false_implies, true_implies, Classical.not_not, Nat.le_refl, Nat.zero_le, sK6 hS, g6, hc, sG6_2 hS, sK9 hS, sL9 hS, sG6_0 hS, sK7 hS, sL7 hS, sG6_1 hS, sK8 hS, sL8 hS, g7, g8, g9, et, vt, es0, es, vs, hKp, hLp, nI_1]
    try dsimp only
    refine ⟨fun q => absurd q (nI_ge (by omega) (by omega)), fun _ => ⟨fun h1 => ?_, fun h1 => ?_⟩⟩
    · rw [if_neg (Int32.not_le.mpr h1)] at hx
      refine zW_ok hj B46_45 45 _ _ _ _ _ b46_45 ?_
      simp only [B46_45, zW, z_wp1, z_ld, z_f0, z_f1, z_f2, z_f3, List.getElem?_cons_zero, List.getElem?_cons_succ, true_and, and_true, Int32.reduceOfInt, z_i10, z_i01, Int32.reduceLT, Int32.reduceLE, Int32.reduceAdd, Int32.reduceSub, z_set, z_set2, z_kil, List.set_cons_zero, List.set_cons_succ, List.take_succ_cons, List.take_zero, List.drop_succ_cons, List.drop_zero, List.reverse_cons, List.reverse_nil, List.nil_append, List.cons_append, List.getD_cons_succ, List.getD_cons_zero, List.getD_nil, List.length_cons, List.length_nil, List.map_cons, List.map_nil, List.sum_cons, List.sum_nil, Nat.reduceAdd, Nat.reduceLeDiff, Value.category, Option.toList, true_or, or_true, z_ua, ↓reduceIte, Nat.reduceEqDiff, eq_self, not_true_eq_false, not_false_eq_true, false_implies, true_implies, Classical.not_not, Nat.le_refl, Nat.zero_le]
      try dsimp only
      exact hQ _ _ ⟨rfl, I', rfl, ho, by rw [← hx]; exact hg⟩
    · rw [if_pos (Int32.not_lt.mp h1)] at hx
      refine c46_loop hS hj hp hc hc4 hsl hQ k (t + 1) _ (by omega) hx (fun q hq => by rw [z_u_ne hq]; exact ho q hq) (fun s hs => ?_)
      rw [z_u_at, x_kn, es0]
      by_cases e : s = s0
      · rw [if_pos e, e, if_pos rfl]
      · rw [if_neg e, if_neg (fun q => e ((nI_eq (by omega) (by omega)).mp q).symm)]
        exact hg s hs
/-- Ledger.knownBy -/
theorem c46 (hS : SS K L G) {p c : Nat} {day : Int32} (hp : p = 11 ∨ p = 69 ∨ p = 70) (hc : I 6 3 = nI c) (hc4 : c ≤ 400) (hsl : ∀ t, t < c → ∃ s, s < 192 ∧ I 7 t = nI s) : z_Ctr l 1 46 [.ref 6, .int day, .ref p] (n, K, L, I, J, G) 0 0 (fun r h' => r = none ∧ ∃ I', h' = (n, K, L, I', J, G) ∧ (∀ q, q ≠ p → I' q = I q) ∧ ∀ s, s < 192 → I' p s = x_kn (I 7) (I 8) s (x_pl (I 9) day c 0)) := by
  have hKp : K p = 13 := by rcases hp with rfl | rfl | rfl <;> first | exact sK11 hS | exact sK69 hS | exact sK70 hS
  have hLp : L p = 192 := by rcases hp with rfl | rfl | rfl <;> first | exact sL11 hS | exact sL69 hS | exact sL70 hS
  refine z_ctr (by decide) (by decide +kernel) (Nat.le_of_ble_eq_true rfl) (by decide +kernel) (fun X hl hj hd hm hs hsc hQ => ?_)
  show zV X 0 [some (.ref 6), some (.int day), some (.ref p), none] [] _ 0 0
  refine zW_ok hj B46_0 0 _ _ _ _ _ b46_0 ?_
  simp only [B46_0, zW, z_wp1, z_ld, z_f0, z_f1, z_f2, z_f3, List.getElem?_cons_zero, List.getElem?_cons_succ, true_and, and_true, Int32.reduceOfInt, z_i10, z_i01, Int32.reduceLT, Int32.reduceLE, Int32.reduceAdd, Int32.reduceSub, z_set, z_set2, z_kil, List.set_cons_zero, List.set_cons_succ, List.take_succ_cons, List.take_zero, List.drop_succ_cons, List.drop_zero, List.reverse_cons, List.reverse_nil, List.nil_append, List.cons_append, List.getD_cons_succ, List.getD_cons_zero, List.getD_nil, List.length_cons, List.length_nil, List.map_cons, List.map_nil, List.sum_cons, List.sum_nil, Nat.reduceAdd, Nat.reduceLeDiff, Value.category, Option.toList, true_or, or_true, z_ua, ↓reduceIte, Nat.reduceEqDiff, eq_self, not_true_eq_false, not_false_eq_true, false_implies, true_implies, Classical.not_not, Nat.le_refl, Nat.zero_le]
  try dsimp only
  refine z_callQ (c256 hKp hLp (by omega) (-1)) (by omega) (by omega) (by omega) (Nat.le_of_ble_eq_true rfl) ?_
  rintro r h' ⟨rfl, I', rfl, ho, hr⟩
  have g6 : I' 6 = I 6 := ho 6 (by omega)
  have g7 : I' 7 = I 7 := ho 7 (by omega)
  have g8 : I' 8 = I 8 := ho 8 (by omega)
  have g9 : I' 9 = I 9 := ho 9 (by omega)
  simp only [zW, z_wp1, z_ld, z_f0, z_f1, z_f2, z_f3, List.getElem?_cons_zero, List.getElem?_cons_succ, true_and, and_true, Int32.reduceOfInt, z_i10, z_i01, Int32.reduceLT, Int32.reduceLE, Int32.reduceAdd, Int32.reduceSub, z_set, z_set2, z_kil, List.set_cons_zero, List.set_cons_succ, List.take_succ_cons, List.take_zero, List.drop_succ_cons, List.drop_zero, List.reverse_cons, List.reverse_nil, List.nil_append, List.cons_append, List.getD_cons_succ, List.getD_cons_zero, List.getD_nil, List.length_cons, List.length_nil, List.map_cons, List.map_nil, List.sum_cons, List.sum_nil, Nat.reduceAdd, Nat.reduceLeDiff, Value.category, Option.toList, true_or, or_true, z_ua, ↓reduceIte, Nat.reduceEqDiff, eq_self, not_true_eq_false, not_false_eq_true, false_implies, true_implies, Classical.not_not, Nat.le_refl, Nat.zero_le]
  try dsimp only
  refine c46_loop (I := I') hS hj hp (by rw [g6]; exact hc) hc4 (by rw [g7]; exact hsl) ?_ c 0 I' (by omega) rfl (fun _ _ => rfl) (fun s hs => hr s hs)
  rintro r h' ⟨rfl, I2, rfl, h1, h2⟩
  exact hQ _ _ ⟨rfl, I2, rfl, fun q hq => (h1 q hq).trans (ho q hq), by rw [g7, g8, g9] at h2; exact h2⟩
/-- Table: hasFind, hasFinds, hasMarks, hasMark, markCount -/
theorem c86 (hS : SS K L G) (f : Int32) : z_D l 0 86 [.ref 10, .int f] (n, K, L, I, J, G) (some (.int (z_b (0 ≤ f ∧ f < I 10 0)))) (n, K, L, I, J, G) := by
  refine z_ctr (by decide) (by decide +kernel) (Nat.le_of_ble_eq_true rfl) (by decide +kernel) (fun X hl hj hd hm hs hsc hQ => ?_)
  show zV X 0 [some (.ref 10), some (.int f)] [] _ 0 0
  all_goals (try (refine zW_ok hj B86_0 0 _ _ _ _ _ b86_0 ?_; simp only [B86_0, zW, z_wp1, z_ld, z_f0, z_f1, z_f2, z_f3, List.getElem?_cons_zero, List.getElem?_cons_succ, true_and, and_true, Int32.reduceOfInt, z_i10, z_i01, Int32.reduceLT, Int32.reduceLE, Int32.reduceAdd, Int32.reduceSub, z_set, z_set2, z_kil, List.set_cons_zero, List.set_cons_succ, List.take_succ_cons, List.take_zero, List.drop_succ_cons, List.drop_zero, List.reverse_cons, List.reverse_nil, List.nil_append, List.cons_append, List.getD_cons_succ, List.getD_cons_zero, List.getD_nil, List.length_cons, List.length_nil, List.map_cons, List.map_nil, List.sum_cons, List.sum_nil, Nat.reduceAdd, Nat.reduceLeDiff, Value.category, Option.toList, true_or, or_true, z_ua, ↓reduceIte, Nat.reduceEqDiff, eq_self, not_true_eq_false, not_false_eq_true, false_implies, true_implies, Classical.not_not, Nat.le_refl, Nat.zero_le, sK10 hS]; try dsimp only))
  all_goals (repeat' (first | (with_reducible refine And.intro ?_ ?_) | (with_reducible intro _)))
  all_goals (try (refine zW_ok hj B86_16 16 _ _ _ _ _ b86_16 ?_; simp only [B86_16, zW, z_wp1, z_ld, z_f0, z_f1, z_f2, z_f3, List.getElem?_cons_zero, List.getElem?_cons_succ, true_and, and_true, Int32.reduceOfInt, z_i10, z_i01, Int32.reduceLT, Int32.reduceLE, Int32.reduceAdd, Int32.reduceSub, z_set, z_set2, z_kil, List.set_cons_zero, List.set_cons_succ, List.take_succ_cons, List.take_zero, List.drop_succ_cons, List.drop_zero, List.reverse_cons, List.reverse_nil, List.nil_append, List.cons_append, List.getD_cons_succ, List.getD_cons_zero, List.getD_nil, List.length_cons, List.length_nil, List.map_cons, List.map_nil, List.sum_cons, List.sum_nil, Nat.reduceAdd, Nat.reduceLeDiff, Value.category, Option.toList, true_or, or_true, z_ua, ↓reduceIte, Nat.reduceEqDiff, eq_self, not_true_eq_false, not_false_eq_true, false_implies, true_implies, Classical.not_not, Nat.le_refl, Nat.zero_le, sK10 hS]; try dsimp only))
  all_goals (repeat' (first | (with_reducible refine And.intro ?_ ?_) | (with_reducible intro _)))
  all_goals (try (refine zW_ok hj B86_17 17 _ _ _ _ _ b86_17 ?_; simp only [B86_17, zW, z_wp1, z_ld, z_f0, z_f1, z_f2, z_f3, List.getElem?_cons_zero, List.getElem?_cons_succ, true_and, and_true, Int32.reduceOfInt, z_i10, z_i01, Int32.reduceLT, Int32.reduceLE, Int32.reduceAdd, Int32.reduceSub, z_set, z_set2, z_kil, List.set_cons_zero, List.set_cons_succ, List.take_succ_cons, List.take_zero, List.drop_succ_cons, List.drop_zero, List.reverse_cons, List.reverse_nil, List.nil_append, List.cons_append, List.getD_cons_succ, List.getD_cons_zero, List.getD_nil, List.length_cons, List.length_nil, List.map_cons, List.map_nil, List.sum_cons, List.sum_nil, Nat.reduceAdd, Nat.reduceLeDiff, Value.category, Option.toList, true_or, or_true, z_ua, ↓reduceIte, Nat.reduceEqDiff, eq_self, not_true_eq_false, not_false_eq_true, false_implies, true_implies, Classical.not_not, Nat.le_refl, Nat.zero_le, sK10 hS]; try dsimp only))
  all_goals (repeat' (first | (with_reducible refine And.intro ?_ ?_) | (with_reducible intro _)))
  all_goals first
    | contradiction
    | exact hQ _ _ ⟨rfl, rfl⟩
    | (refine hQ _ _ ⟨?_, rfl⟩; simp only [Option.some.injEq, Value.int.injEq, z_b]; done)
    | (refine hQ _ _ ⟨?_, rfl⟩; simp only [Option.some.injEq, Value.int.injEq, z_b]; exact (if_pos (by first | assumption | (simp only [Int32.lt_iff_toInt_lt, Int32.le_iff_toInt_le, ← Int32.toInt_inj, Int32.reduceToInt] at *; omega))).symm)
    | (refine hQ _ _ ⟨?_, rfl⟩; simp only [Option.some.injEq, Value.int.injEq, z_b]; exact (if_neg (by first | assumption | (simp only [Int32.lt_iff_toInt_lt, Int32.le_iff_toInt_le, ← Int32.toInt_inj, Int32.reduceToInt] at *; omega))).symm)
theorem c87 (hS : SS K L G) (s : Int32) : z_D l 0 87 [.ref 10, .int s] (n, K, L, I, J, G) (some (.int (z_b (0 ≤ s ∧ s >>> (I 10 0 &&& 31) = 0)))) (n, K, L, I, J, G) := by
  refine z_ctr (by decide) (by decide +kernel) (Nat.le_of_ble_eq_true rfl) (by decide +kernel) (fun X hl hj hd hm hs hsc hQ => ?_)
  show zV X 0 [some (.ref 10), some (.int s)] [] _ 0 0
  all_goals (try (refine zW_ok hj B87_0 0 _ _ _ _ _ b87_0 ?_; simp only [B87_0, zW, z_wp1, z_ld, z_f0, z_f1, z_f2, z_f3, List.getElem?_cons_zero, List.getElem?_cons_succ, true_and, and_true, Int32.reduceOfInt, z_i10, z_i01, Int32.reduceLT, Int32.reduceLE, Int32.reduceAdd, Int32.reduceSub, z_set, z_set2, z_kil, List.set_cons_zero, List.set_cons_succ, List.take_succ_cons, List.take_zero, List.drop_succ_cons, List.drop_zero, List.reverse_cons, List.reverse_nil, List.nil_append, List.cons_append, List.getD_cons_succ, List.getD_cons_zero, List.getD_nil, List.length_cons, List.length_nil, List.map_cons, List.map_nil, List.sum_cons, List.sum_nil, Nat.reduceAdd, Nat.reduceLeDiff, Value.category, Option.toList, true_or, or_true, z_ua, ↓reduceIte, Nat.reduceEqDiff, eq_self, not_true_eq_false, not_false_eq_true, false_implies, true_implies, Classical.not_not, Nat.le_refl, Nat.zero_le, sK10 hS]; try dsimp only))
  all_goals (repeat' (first | (with_reducible refine And.intro ?_ ?_) | (with_reducible intro _)))
  all_goals (try (refine zW_ok hj B87_17 17 _ _ _ _ _ b87_17 ?_; simp only [B87_17, zW, z_wp1, z_ld, z_f0, z_f1, z_f2, z_f3, List.getElem?_cons_zero, List.getElem?_cons_succ, true_and, and_true, Int32.reduceOfInt, z_i10, z_i01, Int32.reduceLT, Int32.reduceLE, Int32.reduceAdd, Int32.reduceSub, z_set, z_set2, z_kil, List.set_cons_zero, List.set_cons_succ, List.take_succ_cons, List.take_zero, List.drop_succ_cons, List.drop_zero, List.reverse_cons, List.reverse_nil, List.nil_append, List.cons_append, List.getD_cons_succ, List.getD_cons_zero, List.getD_nil, List.length_cons, List.length_nil, List.map_cons, List.map_nil, List.sum_cons, List.sum_nil, Nat.reduceAdd, Nat.reduceLeDiff, Value.category, Option.toList, true_or, or_true, z_ua, ↓reduceIte, Nat.reduceEqDiff, eq_self, not_true_eq_false, not_false_eq_true, false_implies, true_implies, Classical.not_not, Nat.le_refl, Nat.zero_le, sK10 hS]; try dsimp only))
  all_goals (repeat' (first | (with_reducible refine And.intro ?_ ?_) | (with_reducible intro _)))
  all_goals (try (refine zW_ok hj B87_18 18 _ _ _ _ _ b87_18 ?_; simp only [B87_18, zW, z_wp1, z_ld, z_f0, z_f1, z_f2, z_f3, List.getElem?_cons_zero, List.getElem?_cons_succ, true_and, and_true, Int32.reduceOfInt, z_i10, z_i01, Int32.reduceLT, Int32.reduceLE, Int32.reduceAdd, Int32.reduceSub, z_set, z_set2, z_kil, List.set_cons_zero, List.set_cons_succ, List.take_succ_cons, List.take_zero, List.drop_succ_cons, List.drop_zero, List.reverse_cons, List.reverse_nil, List.nil_append, List.cons_append, List.getD_cons_succ, List.getD_cons_zero, List.getD_nil, List.length_cons, List.length_nil, List.map_cons, List.map_nil, List.sum_cons, List.sum_nil, Nat.reduceAdd, Nat.reduceLeDiff, Value.category, Option.toList, true_or, or_true, z_ua, ↓reduceIte, Nat.reduceEqDiff, eq_self, not_true_eq_false, not_false_eq_true, false_implies, true_implies, Classical.not_not, Nat.le_refl, Nat.zero_le, sK10 hS]; try dsimp only))
  all_goals (repeat' (first | (with_reducible refine And.intro ?_ ?_) | (with_reducible intro _)))
  all_goals first
    | contradiction
    | exact hQ _ _ ⟨rfl, rfl⟩
    | (refine hQ _ _ ⟨?_, rfl⟩; simp only [Option.some.injEq, Value.int.injEq, z_b]; done)
    | (refine hQ _ _ ⟨?_, rfl⟩; simp only [Option.some.injEq, Value.int.injEq, z_b]; exact (if_pos (by first | assumption | (simp only [Int32.lt_iff_toInt_lt, Int32.le_iff_toInt_le, ← Int32.toInt_inj, Int32.reduceToInt] at *; omega))).symm)
    | (refine hQ _ _ ⟨?_, rfl⟩; simp only [Option.some.injEq, Value.int.injEq, z_b]; exact (if_neg (by first | assumption | (simp only [Int32.lt_iff_toInt_lt, Int32.le_iff_toInt_le, ← Int32.toInt_inj, Int32.reduceToInt] at *; omega))).symm)
    | (refine hQ _ _ ⟨?_, rfl⟩; simp_all [z_b]; done)
theorem c88 (hS : SS K L G) (hC : XC G cd) (s : Int32) : z_D l 0 88 [.ref 10, .int s] (n, K, L, I, J, G) (some (.int (z_b (0 ≤ s ∧ s >>> (I cd 3 &&& 31) = 0)))) (n, K, L, I, J, G) := by
  have hk := (XD_of hS hC.1).1
  have hg := hC.2.1
  refine z_ctr (by decide) (by decide +kernel) (Nat.le_of_ble_eq_true rfl) (by decide +kernel) (fun X hl hj hd hm hs hsc hQ => ?_)
  show zV X 0 [some (.ref 10), some (.int s)] [] _ 0 0
  all_goals (try (refine zW_ok hj B88_0 0 _ _ _ _ _ b88_0 ?_; simp only [B88_0, zW, z_wp1, z_ld, z_f0, z_f1, z_f2, z_f3, List.getElem?_cons_zero, List.getElem?_cons_succ, true_and, and_true, Int32.reduceOfInt, z_i10, z_i01, Int32.reduceLT, Int32.reduceLE, Int32.reduceAdd, Int32.reduceSub, z_set, z_set2, z_kil, List.set_cons_zero, List.set_cons_succ, List.take_succ_cons, List.take_zero, List.drop_succ_cons, List.drop_zero, List.reverse_cons, List.reverse_nil, List.nil_append, List.cons_append, List.getD_cons_succ, List.getD_cons_zero, List.getD_nil, List.length_cons, List.length_nil, List.map_cons, List.map_nil, List.sum_cons, List.sum_nil, Nat.reduceAdd, Nat.reduceLeDiff, Value.category, Option.toList, true_or, or_true, z_ua, ↓reduceIte, Nat.reduceEqDiff, eq_self, not_true_eq_false, not_false_eq_true, false_implies, true_implies, Classical.not_not, Nat.le_refl, Nat.zero_le, sK10 hS, hk, hg]; try dsimp only))
  all_goals (repeat' (first | (with_reducible refine And.intro ?_ ?_) | (with_reducible intro _)))
  all_goals (try (refine zW_ok hj B88_20 20 _ _ _ _ _ b88_20 ?_; simp only [B88_20, zW, z_wp1, z_ld, z_f0, z_f1, z_f2, z_f3, List.getElem?_cons_zero, List.getElem?_cons_succ, true_and, and_true, Int32.reduceOfInt, z_i10, z_i01, Int32.reduceLT, Int32.reduceLE, Int32.reduceAdd, Int32.reduceSub, z_set, z_set2, z_kil, List.set_cons_zero, List.set_cons_succ, List.take_succ_cons, List.take_zero, List.drop_succ_cons, List.drop_zero, List.reverse_cons, List.reverse_nil, List.nil_append, List.cons_append, List.getD_cons_succ, List.getD_cons_zero, List.getD_nil, List.length_cons, List.length_nil, List.map_cons, List.map_nil, List.sum_cons, List.sum_nil, Nat.reduceAdd, Nat.reduceLeDiff, Value.category, Option.toList, true_or, or_true, z_ua, ↓reduceIte, Nat.reduceEqDiff, eq_self, not_true_eq_false, not_false_eq_true, false_implies, true_implies, Classical.not_not, Nat.le_refl, Nat.zero_le, sK10 hS, hk, hg]; try dsimp only))
  all_goals (repeat' (first | (with_reducible refine And.intro ?_ ?_) | (with_reducible intro _)))
  all_goals (try (refine zW_ok hj B88_21 21 _ _ _ _ _ b88_21 ?_; simp only [B88_21, zW, z_wp1, z_ld, z_f0, z_f1, z_f2, z_f3, List.getElem?_cons_zero, List.getElem?_cons_succ, true_and, and_true, Int32.reduceOfInt, z_i10, z_i01, Int32.reduceLT, Int32.reduceLE, Int32.reduceAdd, Int32.reduceSub, z_set, z_set2, z_kil, List.set_cons_zero, List.set_cons_succ, List.take_succ_cons, List.take_zero, List.drop_succ_cons, List.drop_zero, List.reverse_cons, List.reverse_nil, List.nil_append, List.cons_append, List.getD_cons_succ, List.getD_cons_zero, List.getD_nil, List.length_cons, List.length_nil, List.map_cons, List.map_nil, List.sum_cons, List.sum_nil, Nat.reduceAdd, Nat.reduceLeDiff, Value.category, Option.toList, true_or, or_true, z_ua, ↓reduceIte, Nat.reduceEqDiff, eq_self, not_true_eq_false, not_false_eq_true, false_implies, true_implies, Classical.not_not, Nat.le_refl, Nat.zero_le, sK10 hS, hk, hg]; try dsimp only))
  all_goals (repeat' (first | (with_reducible refine And.intro ?_ ?_) | (with_reducible intro _)))
  all_goals first
    | contradiction
    | exact hQ _ _ ⟨rfl, rfl⟩
    | (refine hQ _ _ ⟨?_, rfl⟩; simp only [Option.some.injEq, Value.int.injEq, z_b]; done)
    | (refine hQ _ _ ⟨?_, rfl⟩; simp only [Option.some.injEq, Value.int.injEq, z_b]; exact (if_pos (by first | assumption | (simp only [Int32.lt_iff_toInt_lt, Int32.le_iff_toInt_le, ← Int32.toInt_inj, Int32.reduceToInt] at *; omega))).symm)
    | (refine hQ _ _ ⟨?_, rfl⟩; simp only [Option.some.injEq, Value.int.injEq, z_b]; exact (if_neg (by first | assumption | (simp only [Int32.lt_iff_toInt_lt, Int32.le_iff_toInt_le, ← Int32.toInt_inj, Int32.reduceToInt] at *; omega))).symm)
    | (refine hQ _ _ ⟨?_, rfl⟩; simp_all [z_b]; done)
theorem c89 (hS : SS K L G) (hC : XC G cd) (i : Int32) : z_D l 0 89 [.ref 10, .int i] (n, K, L, I, J, G) (some (.int (z_b (0 ≤ i ∧ i < I cd 3)))) (n, K, L, I, J, G) := by
  have hk := (XD_of hS hC.1).1
  have hg := hC.2.1
  refine z_ctr (by decide) (by decide +kernel) (Nat.le_of_ble_eq_true rfl) (by decide +kernel) (fun X hl hj hd hm hs hsc hQ => ?_)
  show zV X 0 [some (.ref 10), some (.int i)] [] _ 0 0
  all_goals (try (refine zW_ok hj B89_0 0 _ _ _ _ _ b89_0 ?_; simp only [B89_0, zW, z_wp1, z_ld, z_f0, z_f1, z_f2, z_f3, List.getElem?_cons_zero, List.getElem?_cons_succ, true_and, and_true, Int32.reduceOfInt, z_i10, z_i01, Int32.reduceLT, Int32.reduceLE, Int32.reduceAdd, Int32.reduceSub, z_set, z_set2, z_kil, List.set_cons_zero, List.set_cons_succ, List.take_succ_cons, List.take_zero, List.drop_succ_cons, List.drop_zero, List.reverse_cons, List.reverse_nil, List.nil_append, List.cons_append, List.getD_cons_succ, List.getD_cons_zero, List.getD_nil, List.length_cons, List.length_nil, List.map_cons, List.map_nil, List.sum_cons, List.sum_nil, Nat.reduceAdd, Nat.reduceLeDiff, Value.category, Option.toList, true_or, or_true, z_ua, ↓reduceIte, Nat.reduceEqDiff, eq_self, not_true_eq_false, not_false_eq_true, false_implies, true_implies, Classical.not_not, Nat.le_refl, Nat.zero_le, sK10 hS, hk, hg]; try dsimp only))
  all_goals (repeat' (first | (with_reducible refine And.intro ?_ ?_) | (with_reducible intro _)))
  all_goals (try (refine zW_ok hj B89_19 19 _ _ _ _ _ b89_19 ?_; simp only [B89_19, zW, z_wp1, z_ld, z_f0, z_f1, z_f2, z_f3, List.getElem?_cons_zero, List.getElem?_cons_succ, true_and, and_true, Int32.reduceOfInt, z_i10, z_i01, Int32.reduceLT, Int32.reduceLE, Int32.reduceAdd, Int32.reduceSub, z_set, z_set2, z_kil, List.set_cons_zero, List.set_cons_succ, List.take_succ_cons, List.take_zero, List.drop_succ_cons, List.drop_zero, List.reverse_cons, List.reverse_nil, List.nil_append, List.cons_append, List.getD_cons_succ, List.getD_cons_zero, List.getD_nil, List.length_cons, List.length_nil, List.map_cons, List.map_nil, List.sum_cons, List.sum_nil, Nat.reduceAdd, Nat.reduceLeDiff, Value.category, Option.toList, true_or, or_true, z_ua, ↓reduceIte, Nat.reduceEqDiff, eq_self, not_true_eq_false, not_false_eq_true, false_implies, true_implies, Classical.not_not, Nat.le_refl, Nat.zero_le, sK10 hS, hk, hg]; try dsimp only))
  all_goals (repeat' (first | (with_reducible refine And.intro ?_ ?_) | (with_reducible intro _)))
  all_goals (try (refine zW_ok hj B89_20 20 _ _ _ _ _ b89_20 ?_; simp only [B89_20, zW, z_wp1, z_ld, z_f0, z_f1, z_f2, z_f3, List.getElem?_cons_zero, List.getElem?_cons_succ, true_and, and_true, Int32.reduceOfInt, z_i10, z_i01, Int32.reduceLT, Int32.reduceLE, Int32.reduceAdd, Int32.reduceSub, z_set, z_set2, z_kil, List.set_cons_zero, List.set_cons_succ, List.take_succ_cons, List.take_zero, List.drop_succ_cons, List.drop_zero, List.reverse_cons, List.reverse_nil, List.nil_append, List.cons_append, List.getD_cons_succ, List.getD_cons_zero, List.getD_nil, List.length_cons, List.length_nil, List.map_cons, List.map_nil, List.sum_cons, List.sum_nil, Nat.reduceAdd, Nat.reduceLeDiff, Value.category, Option.toList, true_or, or_true, z_ua, ↓reduceIte, Nat.reduceEqDiff, eq_self, not_true_eq_false, not_false_eq_true, false_implies, true_implies, Classical.not_not, Nat.le_refl, Nat.zero_le, sK10 hS, hk, hg]; try dsimp only))
  all_goals (repeat' (first | (with_reducible refine And.intro ?_ ?_) | (with_reducible intro _)))
  all_goals first
    | contradiction
    | exact hQ _ _ ⟨rfl, rfl⟩
    | (refine hQ _ _ ⟨?_, rfl⟩; simp only [Option.some.injEq, Value.int.injEq, z_b]; done)
    | (refine hQ _ _ ⟨?_, rfl⟩; simp only [Option.some.injEq, Value.int.injEq, z_b]; exact (if_pos (by first | assumption | (simp only [Int32.lt_iff_toInt_lt, Int32.le_iff_toInt_le, ← Int32.toInt_inj, Int32.reduceToInt] at *; omega))).symm)
    | (refine hQ _ _ ⟨?_, rfl⟩; simp only [Option.some.injEq, Value.int.injEq, z_b]; exact (if_neg (by first | assumption | (simp only [Int32.lt_iff_toInt_lt, Int32.le_iff_toInt_le, ← Int32.toInt_inj, Int32.reduceToInt] at *; omega))).symm)
theorem c90 (hS : SS K L G) (hC : XC G cd) : z_D l 0 90 [.ref 10] (n, K, L, I, J, G) (some (.int (I cd 3))) (n, K, L, I, J, G) := by
  have hk := (XD_of hS hC.1).1
  have hg := hC.2.1
  refine z_ctr (by decide) (by decide +kernel) (Nat.le_of_ble_eq_true rfl) (by decide +kernel) (fun X hl hj hd hm hs hsc hQ => ?_)
  show zV X 0 [some (.ref 10)] [] _ 0 0
  all_goals (try (refine zW_ok hj B90_0 0 _ _ _ _ _ b90_0 ?_; simp only [B90_0, zW, z_wp1, z_ld, z_f0, z_f1, z_f2, z_f3, List.getElem?_cons_zero, List.getElem?_cons_succ, true_and, and_true, Int32.reduceOfInt, z_i10, z_i01, Int32.reduceLT, Int32.reduceLE, Int32.reduceAdd, Int32.reduceSub, z_set, z_set2, z_kil, List.set_cons_zero, List.set_cons_succ, List.take_succ_cons, List.take_zero, List.drop_succ_cons, List.drop_zero, List.reverse_cons, List.reverse_nil, List.nil_append, List.cons_append, List.getD_cons_succ, List.getD_cons_zero, List.getD_nil, List.length_cons, List.length_nil, List.map_cons, List.map_nil, List.sum_cons, List.sum_nil, Nat.reduceAdd, Nat.reduceLeDiff, Value.category, Option.toList, true_or, or_true, z_ua, ↓reduceIte, Nat.reduceEqDiff, eq_self, not_true_eq_false, not_false_eq_true, false_implies, true_implies, Classical.not_not, Nat.le_refl, Nat.zero_le, sK10 hS, hk, hg]; try dsimp only))
  all_goals (repeat' (first | (with_reducible refine And.intro ?_ ?_) | (with_reducible intro _)))
  all_goals first
    | contradiction
    | exact hQ _ _ ⟨rfl, rfl⟩
    | (refine hQ _ _ ⟨?_, rfl⟩; simp only [Option.some.injEq, Value.int.injEq, z_b]; done)
    | (refine hQ _ _ ⟨?_, rfl⟩; simp only [Option.some.injEq, Value.int.injEq, z_b]; exact (if_pos (by first | assumption | (simp only [Int32.lt_iff_toInt_lt, Int32.le_iff_toInt_le, ← Int32.toInt_inj, Int32.reduceToInt] at *; omega))).symm)
    | (refine hQ _ _ ⟨?_, rfl⟩; simp only [Option.some.injEq, Value.int.injEq, z_b]; exact (if_neg (by first | assumption | (simp only [Int32.lt_iff_toInt_lt, Int32.le_iff_toInt_le, ← Int32.toInt_inj, Int32.reduceToInt] at *; omega))).symm)
/-- Table.addFind -/
theorem c91a (hS : SS K L G) {F : Nat} (hF : I 10 0 = nI F) (h : F < 16) : z_D l 0 91 [.ref 10] (n, K, L, I, J, G) (some (.int (nI F))) (n, K, L, z_u (z_u I 10 0 (nI (F + 1))) 10 10 (I 10 10 + 1), J, G) := by
  have e : nI F < 16 := nI_lt (b := 16) h (by omega)
  refine z_ctr (by decide) (by decide +kernel) (Nat.le_of_ble_eq_true rfl) (by decide +kernel) (fun X hl hj hd hm hs hsc hQ => ?_)
  show zV X 0 [some (.ref 10)] [] _ 0 0
  refine zW_ok hj B91_0 0 _ _ _ _ _ b91_0 ?_
  simp only [B91_0, zW, z_wp1, z_ld, z_f0, z_f1, z_f2, z_f3, List.getElem?_cons_zero, List.getElem?_cons_succ, true_and, and_true, Int32.reduceOfInt, z_i10, z_i01, Int32.reduceLT, Int32.reduceLE, Int32.reduceAdd, Int32.reduceSub, z_set, z_set2, z_kil, List.set_cons_zero, List.set_cons_succ, List.take_succ_cons, List.take_zero, List.drop_succ_cons, List.drop_zero, List.reverse_cons, List.reverse_nil, List.nil_append, List.cons_append, List.getD_cons_succ, List.getD_cons_zero, List.getD_nil, List.length_cons, List.length_nil, List.map_cons, List.map_nil, List.sum_cons, List.sum_nil, Nat.reduceAdd, Nat.reduceLeDiff, Value.category, Option.toList, true_or, or_true, z_ua, ↓reduceIte, Nat.reduceEqDiff, eq_self, not_true_eq_false, not_false_eq_true, false_implies, true_implies, Classical.not_not, Nat.le_refl, Nat.zero_le, sK10 hS, hF]
  try dsimp only
  refine ⟨fun _ => ?_, fun q => absurd e q⟩
  refine zW_ok hj B91_11 11 _ _ _ _ _ b91_11 ?_
  simp only [B91_11, zW, z_wp1, z_ld, z_f0, z_f1, z_f2, z_f3, List.getElem?_cons_zero, List.getElem?_cons_succ, true_and, and_true, Int32.reduceOfInt, z_i10, z_i01, Int32.reduceLT, Int32.reduceLE, Int32.reduceAdd, Int32.reduceSub, z_set, z_set2, z_kil, List.set_cons_zero, List.set_cons_succ, List.take_succ_cons, List.take_zero, List.drop_succ_cons, List.drop_zero, List.reverse_cons, List.reverse_nil, List.nil_append, List.cons_append, List.getD_cons_succ, List.getD_cons_zero, List.getD_nil, List.length_cons, List.length_nil, List.map_cons, List.map_nil, List.sum_cons, List.sum_nil, Nat.reduceAdd, Nat.reduceLeDiff, Value.category, Option.toList, true_or, or_true, z_ua, ↓reduceIte, Nat.reduceEqDiff, eq_self, not_true_eq_false, not_false_eq_true, false_implies, true_implies, Classical.not_not, Nat.le_refl, Nat.zero_le, sK10 hS, hF, nI_1, nI_pred]
  try dsimp only
  exact hQ _ _ ⟨rfl, rfl⟩
theorem c91b (hS : SS K L G) {F : Nat} (hF : I 10 0 = nI F) (h : F = 16) : z_D l 0 91 [.ref 10] (n, K, L, I, J, G) (some (.int (-1))) (n, K, L, I, J, G) := by
  subst h
  refine z_ctr (by decide) (by decide +kernel) (Nat.le_of_ble_eq_true rfl) (by decide +kernel) (fun X hl hj hd hm hs hsc hQ => ?_)
  show zV X 0 [some (.ref 10)] [] _ 0 0
  refine zW_ok hj B91_0 0 _ _ _ _ _ b91_0 ?_
  simp only [B91_0, zW, z_wp1, z_ld, z_f0, z_f1, z_f2, z_f3, List.getElem?_cons_zero, List.getElem?_cons_succ, true_and, and_true, Int32.reduceOfInt, z_i10, z_i01, Int32.reduceLT, Int32.reduceLE, Int32.reduceAdd, Int32.reduceSub, z_set, z_set2, z_kil, List.set_cons_zero, List.set_cons_succ, List.take_succ_cons, List.take_zero, List.drop_succ_cons, List.drop_zero, List.reverse_cons, List.reverse_nil, List.nil_append, List.cons_append, List.getD_cons_succ, List.getD_cons_zero, List.getD_nil, List.length_cons, List.length_nil, List.map_cons, List.map_nil, List.sum_cons, List.sum_nil, Nat.reduceAdd, Nat.reduceLeDiff, Value.category, Option.toList, true_or, or_true, z_ua, ↓reduceIte, Nat.reduceEqDiff, eq_self, not_true_eq_false, not_false_eq_true, false_implies, true_implies, Classical.not_not, Nat.le_refl, Nat.zero_le, sK10 hS, hF]
  try dsimp only
  refine ⟨fun q => absurd q (by decide), fun _ => hQ _ _ ⟨rfl, rfl⟩⟩
/-- Table.hear -/
theorem c92a (hS : SS K L G) {s f : Nat} {v d : Int32} (hs192 : s < 192) (hf : f < 16) (h : d ≤ I 10 2) : z_D l 0 92 [.ref 10, .int (nI s), .int (nI f), .int v, .int d] (n, K, L, I, J, G) none (n, K, L, z_u (z_u (z_u I 11 s v) 18 f 0) 10 10 (I 10 10 + 1), J, G) := by
  have e1 : (nI s).toNatClampNeg = s := nI_clamp (by omega)
  have v1 : vp_in (nI s) 192 := vp_in_nI (by omega) (by omega)
  have e2 : (nI f).toNatClampNeg = f := nI_clamp (by omega)
  have v2 : vp_in (nI f) 16 := vp_in_nI (by omega) (by omega)
  refine z_ctr (by decide) (by decide +kernel) (Nat.le_of_ble_eq_true rfl) (by decide +kernel) (fun X hl hj hd hm hs hsc hQ => ?_)
  show zV X 0 [some (.ref 10), some (.int (nI s)), some (.int (nI f)), some (.int v), some (.int d)] [] _ 0 0
  refine zW_ok hj B92_0 0 _ _ _ _ _ b92_0 ?_
  simp only [B92_0, zW, z_wp1, z_ld, z_f0, z_f1, z_f2, z_f3, List.getElem?_cons_zero, List.getElem?_cons_succ, true_and, and_true, Int32.reduceOfInt, z_i10, z_i01, Int32.reduceLT, Int32.reduceLE, Int32.reduceAdd, Int32.reduceSub, z_set, z_set2, z_kil, List.set_cons_zero, List.set_cons_succ, List.take_succ_cons, List.take_zero, List.drop_succ_cons, List.drop_zero, List.reverse_cons, List.reverse_nil, List.nil_append, List.cons_append, List.getD_cons_succ, List.getD_cons_zero, List.getD_nil, List.length_cons, List.length_nil, List.map_cons, List.map_nil, List.sum_cons, List.sum_nil, Nat.reduceAdd, Nat.reduceLeDiff, Value.category, Option.toList, true_or, or_true, z_ua, ↓reduceIte, Nat.reduceEqDiff, eq_self, not_true_eq_false, not_false_eq_true, false_implies, true_implies, Classical.not_not, Nat.le_refl, Nat.zero_le, sK10 hS, sG10_3 hS, sK11 hS, sL11 hS, sG10_7 hS, sK18 hS, sL18 hS, e1, v1, e2, v2, z_nb0]
  try dsimp only
  refine ⟨fun q => absurd h (Int32.not_le.mpr q), fun _ => ?_⟩
  refine zW_ok hj B92_33 33 _ _ _ _ _ b92_33 ?_
  simp only [B92_33, zW, z_wp1, z_ld, z_f0, z_f1, z_f2, z_f3, List.getElem?_cons_zero, List.getElem?_cons_succ, true_and, and_true, Int32.reduceOfInt, z_i10, z_i01, Int32.reduceLT, Int32.reduceLE, Int32.reduceAdd, Int32.reduceSub, z_set, z_set2, z_kil, List.set_cons_zero, List.set_cons_succ, List.take_succ_cons, List.take_zero, List.drop_succ_cons, List.drop_zero, List.reverse_cons, List.reverse_nil, List.nil_append, List.cons_append, List.getD_cons_succ, List.getD_cons_zero, List.getD_nil, List.length_cons, List.length_nil, List.map_cons, List.map_nil, List.sum_cons, List.sum_nil, Nat.reduceAdd, Nat.reduceLeDiff, Value.category, Option.toList, true_or, or_true, z_ua, ↓reduceIte, Nat.reduceEqDiff, eq_self, not_true_eq_false, not_false_eq_true, false_implies, true_implies, Classical.not_not, Nat.le_refl, Nat.zero_le]
  try dsimp only
  exact hQ _ _ ⟨rfl, rfl⟩
theorem c92b (hS : SS K L G) {s f v d : Int32} (h : ¬ d ≤ I 10 2) : z_D l 0 92 [.ref 10, .int s, .int f, .int v, .int d] (n, K, L, I, J, G) none (n, K, L, I, J, G) := by
  refine z_ctr (by decide) (by decide +kernel) (Nat.le_of_ble_eq_true rfl) (by decide +kernel) (fun X hl hj hd hm hs hsc hQ => ?_)
  show zV X 0 [some (.ref 10), some (.int s), some (.int f), some (.int v), some (.int d)] [] _ 0 0
  refine zW_ok hj B92_0 0 _ _ _ _ _ b92_0 ?_
  simp only [B92_0, zW, z_wp1, z_ld, z_f0, z_f1, z_f2, z_f3, List.getElem?_cons_zero, List.getElem?_cons_succ, true_and, and_true, Int32.reduceOfInt, z_i10, z_i01, Int32.reduceLT, Int32.reduceLE, Int32.reduceAdd, Int32.reduceSub, z_set, z_set2, z_kil, List.set_cons_zero, List.set_cons_succ, List.take_succ_cons, List.take_zero, List.drop_succ_cons, List.drop_zero, List.reverse_cons, List.reverse_nil, List.nil_append, List.cons_append, List.getD_cons_succ, List.getD_cons_zero, List.getD_nil, List.length_cons, List.length_nil, List.map_cons, List.map_nil, List.sum_cons, List.sum_nil, Nat.reduceAdd, Nat.reduceLeDiff, Value.category, Option.toList, true_or, or_true, z_ua, ↓reduceIte, Nat.reduceEqDiff, eq_self, not_true_eq_false, not_false_eq_true, false_implies, true_implies, Classical.not_not, Nat.le_refl, Nat.zero_le, sK10 hS, sG10_3 hS, sK11 hS, sL11 hS, sG10_7 hS, sK18 hS, sL18 hS]
  try dsimp only
  refine ⟨fun _ => ?_, fun q => absurd (Int32.not_lt.mp q) h⟩
  refine zW_ok hj B92_33 33 _ _ _ _ _ b92_33 ?_
  simp only [B92_33, zW, z_wp1, z_ld, z_f0, z_f1, z_f2, z_f3, List.getElem?_cons_zero, List.getElem?_cons_succ, true_and, and_true, Int32.reduceOfInt, z_i10, z_i01, Int32.reduceLT, Int32.reduceLE, Int32.reduceAdd, Int32.reduceSub, z_set, z_set2, z_kil, List.set_cons_zero, List.set_cons_succ, List.take_succ_cons, List.take_zero, List.drop_succ_cons, List.drop_zero, List.reverse_cons, List.reverse_nil, List.nil_append, List.cons_append, List.getD_cons_succ, List.getD_cons_zero, List.getD_nil, List.length_cons, List.length_nil, List.map_cons, List.map_nil, List.sum_cons, List.sum_nil, Nat.reduceAdd, Nat.reduceLeDiff, Value.category, Option.toList, true_or, or_true, z_ua, ↓reduceIte, Nat.reduceEqDiff, eq_self, not_true_eq_false, not_false_eq_true, false_implies, true_implies, Classical.not_not, Nat.le_refl, Nat.zero_le]
  try dsimp only
  exact hQ _ _ ⟨rfl, rfl⟩
/-- Table.forget -/
theorem c95_loop {X : zX} (hS : SS K L G) (hj : X.2.1 = 95) {F : Nat} (hF : I 10 0 = nI F) (hF16 : F ≤ 16) (hQ : ∀ r h', (r = none ∧ ∃ I', h' = (n, K, L, z_u I' 10 10 (I 10 10 + 1), J, G) ∧ (∀ q, q ≠ 18 → I' q = I q) ∧ ∀ f, f < F → I' 18 f = 0) → X.2.2.2.2.2.2 r h') : ∀ (k i : Nat) (I' : Nat → Nat → Int32), i + k = F → (∀ q, q ≠ 18 → I' q = I q) → (∀ f, f < i → I' 18 f = 0) → zV X 2 [some (.ref 10), some (.int (nI i))] [] (n, K, L, I', J, G) 0 0
  | 0, i, I', hi, ho, hg => by
    have e : i = F := by omega
    subst e
    have g10 : I' 10 = I 10 := ho 10 (by decide)
    refine zW_ok hj B95_2 2 _ _ _ _ _ b95_2 ?_
    simp only [B95_2, zW, z_wp1, z_ld, z_f0, z_f1, z_f2, z_f3, List.getElem?_cons_zero, List.getElem?_cons_succ, true_and, and_true, Int32.reduceOfInt, z_i10, z_i01, Int32.reduceLT, Int32.reduceLE, Int32.reduceAdd, Int32.reduceSub, z_set, z_set2, z_kil, List.set_cons_zero, List.set_cons_succ, List.take_succ_cons, List.take_zero, List.drop_succ_cons, List.drop_zero, List.reverse_cons, List.reverse_nil, List.nil_append, List.cons_append, List.getD_cons_succ, List.getD_cons_zero, List.getD_nil, List.length_cons, List.length_nil, List.map_cons, List.map_nil, List.sum_cons, List.sum_nil, Nat.reduceAdd, Nat.reduceLeDiff, Value.category, Option.toList, true_or, or_true, z_ua, ↓reduceIte, Nat.reduceEqDiff, eq_self, not_true_eq_false, not_false_eq_true, false_implies, true_implies, Classical.not_not, Nat.le_refl, Nat.zero_le, sK10 hS, g10, hF]
    try dsimp only
    refine ⟨fun _ => ?_, fun q => absurd (nI_le (Nat.le_refl _) (by omega)) q⟩
    refine zW_ok hj B95_23 23 _ _ _ _ _ b95_23 ?_
    simp only [B95_23, zW, z_wp1, z_ld, z_f0, z_f1, z_f2, z_f3, List.getElem?_cons_zero, List.getElem?_cons_succ, true_and, and_true, Int32.reduceOfInt, z_i10, z_i01, Int32.reduceLT, Int32.reduceLE, Int32.reduceAdd, Int32.reduceSub, z_set, z_set2, z_kil, List.set_cons_zero, List.set_cons_succ, List.take_succ_cons, List.take_zero, List.drop_succ_cons, List.drop_zero, List.reverse_cons, List.reverse_nil, List.nil_append, List.cons_append, List.getD_cons_succ, List.getD_cons_zero, List.getD_nil, List.length_cons, List.length_nil, List.map_cons, List.map_nil, List.sum_cons, List.sum_nil, Nat.reduceAdd, Nat.reduceLeDiff, Value.category, Option.toList, true_or, or_true, z_ua, ↓reduceIte, Nat.reduceEqDiff, eq_self, not_true_eq_false, not_false_eq_true, false_implies, true_implies, Classical.not_not, Nat.le_refl, Nat.zero_le, sK10 hS, g10]
    try dsimp only
    exact hQ _ _ ⟨rfl, I', rfl, ho, hg⟩
  | k + 1, i, I', hi, ho, hg => by
    have g10 : I' 10 = I 10 := ho 10 (by decide)
    have e2 : (nI i).toNatClampNeg = i := nI_clamp (by omega)
    have v2 : vp_in (nI i) 16 := vp_in_nI (by omega) (by omega)
    refine zW_ok hj B95_2 2 _ _ _ _ _ b95_2 ?_
    simp only [B95_2, zW, z_wp1, z_ld, z_f0, z_f1, z_f2, z_f3, List.getElem?_cons_zero, List.getElem?_cons_succ, true_and, and_true, Int32.reduceOfInt, z_i10, z_i01, Int32.reduceLT, Int32.reduceLE, Int32.reduceAdd, Int32.reduceSub, z_set, z_set2, z_kil, List.set_cons_zero, List.set_cons_succ, List.take_succ_cons, List.take_zero, List.drop_succ_cons, List.drop_zero, List.reverse_cons, List.reverse_nil, List.nil_append, List.cons_append, List.getD_cons_succ, List.getD_cons_zero, List.getD_nil, List.length_cons, List.length_nil, List.map_cons, List.map_nil, List.sum_cons, List.sum_nil, Nat.reduceAdd, Nat.reduceLeDiff, Value.category, Option.toList, true_or, or_true, z_ua, ↓reduceIte, Nat.reduceEqDiff, eq_self, not_true_eq_false, not_false_eq_true, false_implies, true_implies, Classical.not_not, Nat.le_refl, Nat.zero_le, sK10 hS, g10, hF, sG10_7 hS, sK18 hS, sL18 hS, e2, v2, z_nb0, nI_1]
    try dsimp only
    refine ⟨fun q => absurd q (nI_ge (by omega) (by omega)), fun _ => c95_loop hS hj hF hF16 hQ k (i + 1) _ (by omega) (fun q hq => by rw [z_u_ne hq]; exact ho q hq) (fun f hf => ?_)⟩
    rw [z_u_at]
    rcases Nat.lt_or_ge f i with q | q
    · rw [if_neg (by omega)]; exact hg f q
    · rw [if_pos (by omega)]
theorem c95 (hS : SS K L G) {F : Nat} (hF : I 10 0 = nI F) (hF16 : F ≤ 16) : z_Ctr l 0 95 [.ref 10] (n, K, L, I, J, G) 0 0 (fun r h' => r = none ∧ ∃ I', h' = (n, K, L, z_u I' 10 10 (I 10 10 + 1), J, G) ∧ (∀ q, q ≠ 18 → I' q = I q) ∧ ∀ f, f < F → I' 18 f = 0) := by
  refine z_ctr (by decide) (by decide +kernel) (Nat.le_of_ble_eq_true rfl) (by decide +kernel) (fun X hl hj hd hm hs hsc hQ => ?_)
  show zV X 0 [some (.ref 10), none] [] _ 0 0
  refine zW_ok hj B95_0 0 _ _ _ _ _ b95_0 ?_
  simp only [B95_0, zW, z_wp1, z_ld, z_f0, z_f1, z_f2, z_f3, List.getElem?_cons_zero, List.getElem?_cons_succ, true_and, and_true, Int32.reduceOfInt, z_i10, z_i01, Int32.reduceLT, Int32.reduceLE, Int32.reduceAdd, Int32.reduceSub, z_set, z_set2, z_kil, List.set_cons_zero, List.set_cons_succ, List.take_succ_cons, List.take_zero, List.drop_succ_cons, List.drop_zero, List.reverse_cons, List.reverse_nil, List.nil_append, List.cons_append, List.getD_cons_succ, List.getD_cons_zero, List.getD_nil, List.length_cons, List.length_nil, List.map_cons, List.map_nil, List.sum_cons, List.sum_nil, Nat.reduceAdd, Nat.reduceLeDiff, Value.category, Option.toList, true_or, or_true, z_ua, ↓reduceIte, Nat.reduceEqDiff, eq_self, not_true_eq_false, not_false_eq_true, false_implies, true_implies, Classical.not_not, Nat.le_refl, Nat.zero_le]
  try dsimp only
  exact c95_loop hS hj hF hF16 hQ F 0 I (by omega) (fun _ _ => rfl) (fun f h => absurd h (by omega))
/-- Table: truthOf, rowOf, openOf -/
def x_row (su op : Nat → Int32) (mode : Int32) (f : Nat) : Int32 := if mode = 0 then su f else su f ||| op f
theorem c98 (hS : SS K L G) {f : Nat} (hf : f < 16) (mode : Int32) : z_D l 0 98 [.ref 10, .int (nI f), .int mode] (n, K, L, I, J, G) (some (.int (x_row (I 16) (I 17) mode f))) (n, K, L, I, J, G) := by
  have e2 : (nI f).toNatClampNeg = f := nI_clamp (by omega)
  have v2 : vp_in (nI f) 16 := vp_in_nI (by omega) (by omega)
  refine z_ctr (by decide) (by decide +kernel) (Nat.le_of_ble_eq_true rfl) (by decide +kernel) (fun X hl hj hd hm hs hsc hQ => ?_)
  show zV X 0 [some (.ref 10), some (.int (nI f)), some (.int mode)] [] _ 0 0
  all_goals (try (refine zW_ok hj B98_0 0 _ _ _ _ _ b98_0 ?_; simp only [B98_0, zW, z_wp1, z_ld, z_f0, z_f1, z_f2, z_f3, List.getElem?_cons_zero, List.getElem?_cons_succ, true_and, and_true, Int32.reduceOfInt, z_i10, z_i01, Int32.reduceLT, Int32.reduceLE, Int32.reduceAdd, Int32.reduceSub, z_set, z_set2, z_kil, List.set_cons_zero, List.set_cons_succ, List.take_succ_cons, List.take_zero, List.drop_succ_cons, List.drop_zero, List.reverse_cons, List.reverse_nil, List.nil_append, List.cons_append, List.getD_cons_succ, List.getD_cons_zero, List.getD_nil, List.length_cons, List.length_nil, List.map_cons, List.map_nil, List.sum_cons, List.sum_nil, Nat.reduceAdd, Nat.reduceLeDiff, Value.category, Option.toList, true_or, or_true, z_ua, ↓reduceIte, Nat.reduceEqDiff, eq_self, not_true_eq_false, not_false_eq_true, false_implies, true_implies, Classical.not_not, Nat.le_refl, Nat.zero_le, sK10 hS, sG10_5 hS, sK16 hS, sL16 hS, sG10_6 hS, sK17 hS, sL17 hS, e2, v2]; try dsimp only))
  all_goals (repeat' (first | (with_reducible refine And.intro ?_ ?_) | (with_reducible intro _)))
  all_goals (try (refine zW_ok hj B98_13 13 _ _ _ _ _ b98_13 ?_; simp only [B98_13, zW, z_wp1, z_ld, z_f0, z_f1, z_f2, z_f3, List.getElem?_cons_zero, List.getElem?_cons_succ, true_and, and_true, Int32.reduceOfInt, z_i10, z_i01, Int32.reduceLT, Int32.reduceLE, Int32.reduceAdd, Int32.reduceSub, z_set, z_set2, z_kil, List.set_cons_zero, List.set_cons_succ, List.take_succ_cons, List.take_zero, List.drop_succ_cons, List.drop_zero, List.reverse_cons, List.reverse_nil, List.nil_append, List.cons_append, List.getD_cons_succ, List.getD_cons_zero, List.getD_nil, List.length_cons, List.length_nil, List.map_cons, List.map_nil, List.sum_cons, List.sum_nil, Nat.reduceAdd, Nat.reduceLeDiff, Value.category, Option.toList, true_or, or_true, z_ua, ↓reduceIte, Nat.reduceEqDiff, eq_self, not_true_eq_false, not_false_eq_true, false_implies, true_implies, Classical.not_not, Nat.le_refl, Nat.zero_le, sK10 hS, sG10_5 hS, sK16 hS, sL16 hS, sG10_6 hS, sK17 hS, sL17 hS, e2, v2]; try dsimp only))
  all_goals (repeat' (first | (with_reducible refine And.intro ?_ ?_) | (with_reducible intro _)))
  all_goals (try (refine zW_ok hj B98_26 26 _ _ _ _ _ b98_26 ?_; simp only [B98_26, zW, z_wp1, z_ld, z_f0, z_f1, z_f2, z_f3, List.getElem?_cons_zero, List.getElem?_cons_succ, true_and, and_true, Int32.reduceOfInt, z_i10, z_i01, Int32.reduceLT, Int32.reduceLE, Int32.reduceAdd, Int32.reduceSub, z_set, z_set2, z_kil, List.set_cons_zero, List.set_cons_succ, List.take_succ_cons, List.take_zero, List.drop_succ_cons, List.drop_zero, List.reverse_cons, List.reverse_nil, List.nil_append, List.cons_append, List.getD_cons_succ, List.getD_cons_zero, List.getD_nil, List.length_cons, List.length_nil, List.map_cons, List.map_nil, List.sum_cons, List.sum_nil, Nat.reduceAdd, Nat.reduceLeDiff, Value.category, Option.toList, true_or, or_true, z_ua, ↓reduceIte, Nat.reduceEqDiff, eq_self, not_true_eq_false, not_false_eq_true, false_implies, true_implies, Classical.not_not, Nat.le_refl, Nat.zero_le, sK10 hS, sG10_5 hS, sK16 hS, sL16 hS, sG10_6 hS, sK17 hS, sL17 hS, e2, v2]; try dsimp only))
  all_goals (repeat' (first | (with_reducible refine And.intro ?_ ?_) | (with_reducible intro _)))
  all_goals (refine hQ _ _ ⟨?_, rfl⟩; simp_all [x_row]; done)
theorem c99 (hS : SS K L G) {f : Nat} (hf : f < 16) : z_D l 0 99 [.ref 10, .int (nI f)] (n, K, L, I, J, G) (some (.int (I 17 f))) (n, K, L, I, J, G) := by
  have e2 : (nI f).toNatClampNeg = f := nI_clamp (by omega)
  have v2 : vp_in (nI f) 16 := vp_in_nI (by omega) (by omega)
  refine z_ctr (by decide) (by decide +kernel) (Nat.le_of_ble_eq_true rfl) (by decide +kernel) (fun X hl hj hd hm hs hsc hQ => ?_)
  show zV X 0 [some (.ref 10), some (.int (nI f))] [] _ 0 0
  all_goals (try (refine zW_ok hj B99_0 0 _ _ _ _ _ b99_0 ?_; simp only [B99_0, zW, z_wp1, z_ld, z_f0, z_f1, z_f2, z_f3, List.getElem?_cons_zero, List.getElem?_cons_succ, true_and, and_true, Int32.reduceOfInt, z_i10, z_i01, Int32.reduceLT, Int32.reduceLE, Int32.reduceAdd, Int32.reduceSub, z_set, z_set2, z_kil, List.set_cons_zero, List.set_cons_succ, List.take_succ_cons, List.take_zero, List.drop_succ_cons, List.drop_zero, List.reverse_cons, List.reverse_nil, List.nil_append, List.cons_append, List.getD_cons_succ, List.getD_cons_zero, List.getD_nil, List.length_cons, List.length_nil, List.map_cons, List.map_nil, List.sum_cons, List.sum_nil, Nat.reduceAdd, Nat.reduceLeDiff, Value.category, Option.toList, true_or, or_true, z_ua, ↓reduceIte, Nat.reduceEqDiff, eq_self, not_true_eq_false, not_false_eq_true, false_implies, true_implies, Classical.not_not, Nat.le_refl, Nat.zero_le, sK10 hS, sG10_6 hS, sK17 hS, sL17 hS, e2, v2]; try dsimp only))
  all_goals (repeat' (first | (with_reducible refine And.intro ?_ ?_) | (with_reducible intro _)))
  exact hQ _ _ ⟨rfl, rfl⟩
theorem c97 (hS : SS K L G) {f : Nat} (hf : f < 16) (i : Int32) : z_D l 0 97 [.ref 10, .int (nI f), .int i] (n, K, L, I, J, G) (some (.int (I 16 f >>> (i &&& 31) &&& 1 ||| (I 17 f >>> (i &&& 31) &&& 1) <<< ((1 : Int32) &&& 31)))) (n, K, L, I, J, G) := by
  have e2 : (nI f).toNatClampNeg = f := nI_clamp (by omega)
  have v2 : vp_in (nI f) 16 := vp_in_nI (by omega) (by omega)
  refine z_ctr (by decide) (by decide +kernel) (Nat.le_of_ble_eq_true rfl) (by decide +kernel) (fun X hl hj hd hm hs hsc hQ => ?_)
  show zV X 0 [some (.ref 10), some (.int (nI f)), some (.int i)] [] _ 0 0
  all_goals (try (refine zW_ok hj B97_0 0 _ _ _ _ _ b97_0 ?_; simp only [B97_0, zW, z_wp1, z_ld, z_f0, z_f1, z_f2, z_f3, List.getElem?_cons_zero, List.getElem?_cons_succ, true_and, and_true, Int32.reduceOfInt, z_i10, z_i01, Int32.reduceLT, Int32.reduceLE, Int32.reduceAdd, Int32.reduceSub, z_set, z_set2, z_kil, List.set_cons_zero, List.set_cons_succ, List.take_succ_cons, List.take_zero, List.drop_succ_cons, List.drop_zero, List.reverse_cons, List.reverse_nil, List.nil_append, List.cons_append, List.getD_cons_succ, List.getD_cons_zero, List.getD_nil, List.length_cons, List.length_nil, List.map_cons, List.map_nil, List.sum_cons, List.sum_nil, Nat.reduceAdd, Nat.reduceLeDiff, Value.category, Option.toList, true_or, or_true, z_ua, ↓reduceIte, Nat.reduceEqDiff, eq_self, not_true_eq_false, not_false_eq_true, false_implies, true_implies, Classical.not_not, Nat.le_refl, Nat.zero_le, sK10 hS, sG10_5 hS, sK16 hS, sL16 hS, sG10_6 hS, sK17 hS, sL17 hS, e2, v2]; try dsimp only))
  all_goals (repeat' (first | (with_reducible refine And.intro ?_ ?_) | (with_reducible intro _)))
  exact hQ _ _ ⟨rfl, rfl⟩
/-- Table.having, closureOf: as the model's -/
theorem c100_loop {X : zX} (hS : SS K L G) (hj : X.2.1 = 100) (hd : X.2.2.1 = 1) (hm : X.2.2.2.1 = 0) (hs : X.2.2.2.2.1 = 0) {set mode : Int32} {F : Nat} (hN : I 10 0 = nI F) (hN16 : F ≤ 16) (hQ : ∀ r h', r = some (.int (m_have (x_row (I 16) (I 17) mode) set F)) ∧ h' = (n, K, L, I, J, G) → X.2.2.2.2.2.2 r h') : ∀ k i : Nat, i + k = F → zV X 5 [some (.ref 10), some (.int set), some (.int mode), some (.int (m_have (x_row (I 16) (I 17) mode) set i)), some (.int (nI i))] [] (n, K, L, I, J, G) 0 0
  | 0, i, hi => by
    have e : i = F := by omega
    subst e
    refine zW_ok hj B100_5 5 _ _ _ _ _ b100_5 ?_
    simp only [B100_5, zW, z_wp1, z_ld, z_f0, z_f1, z_f2, z_f3, List.getElem?_cons_zero, List.getElem?_cons_succ, true_and, and_true, Int32.reduceOfInt, z_i10, z_i01, Int32.reduceLT, Int32.reduceLE, Int32.reduceAdd, Int32.reduceSub, z_set, z_set2, z_kil, List.set_cons_zero, List.set_cons_succ, List.take_succ_cons, List.take_zero, List.drop_succ_cons, List.drop_zero, List.reverse_cons, List.reverse_nil, List.nil_append, List.cons_append, List.getD_cons_succ, List.getD_cons_zero, List.getD_nil, List.length_cons, List.length_nil, List.map_cons, List.map_nil, List.sum_cons, List.sum_nil, Nat.reduceAdd, Nat.reduceLeDiff, Value.category, Option.toList, true_or, or_true, z_ua, ↓reduceIte, Nat.reduceEqDiff, eq_self, not_true_eq_false, not_false_eq_true, false_implies, true_implies, Classical.not_not, Nat.le_refl, Nat.zero_le, sK10 hS, hN]
    try dsimp only
    refine ⟨fun _ => ?_, fun hc => absurd (nI_le (Nat.le_refl _) (by omega)) hc⟩
    refine zW_ok hj B100_40 40 _ _ _ _ _ b100_40 ?_
    simp only [B100_40, zW, z_wp1, z_ld, z_f0, z_f1, z_f2, z_f3, List.getElem?_cons_zero, List.getElem?_cons_succ, true_and, and_true, Int32.reduceOfInt, z_i10, z_i01, Int32.reduceLT, Int32.reduceLE, Int32.reduceAdd, Int32.reduceSub, z_set, z_set2, z_kil, List.set_cons_zero, List.set_cons_succ, List.take_succ_cons, List.take_zero, List.drop_succ_cons, List.drop_zero, List.reverse_cons, List.reverse_nil, List.nil_append, List.cons_append, List.getD_cons_succ, List.getD_cons_zero, List.getD_nil, List.length_cons, List.length_nil, List.map_cons, List.map_nil, List.sum_cons, List.sum_nil, Nat.reduceAdd, Nat.reduceLeDiff, Value.category, Option.toList, true_or, or_true, z_ua, ↓reduceIte, Nat.reduceEqDiff, eq_self, not_true_eq_false, not_false_eq_true, false_implies, true_implies, Classical.not_not, Nat.le_refl, Nat.zero_le]
    try dsimp only
    exact hQ _ _ ⟨rfl, rfl⟩
  | k + 1, i, hi => by
    have go : ∀ a : Int32, a = m_have (x_row (I 16) (I 17) mode) set (i + 1) → zV X 34 [some (.ref 10), some (.int set), some (.int mode), some (.int a), some (.int (nI i))] [] (n, K, L, I, J, G) 0 0 := fun a ha => by
      subst ha
      refine zW_ok hj B100_34 34 _ _ _ _ _ b100_34 ?_
      simp only [B100_34, zW, z_wp1, z_ld, z_f0, z_f1, z_f2, z_f3, List.getElem?_cons_zero, List.getElem?_cons_succ, true_and, and_true, Int32.reduceOfInt, z_i10, z_i01, Int32.reduceLT, Int32.reduceLE, Int32.reduceAdd, Int32.reduceSub, z_set, z_set2, z_kil, List.set_cons_zero, List.set_cons_succ, List.take_succ_cons, List.take_zero, List.drop_succ_cons, List.drop_zero, List.reverse_cons, List.reverse_nil, List.nil_append, List.cons_append, List.getD_cons_succ, List.getD_cons_zero, List.getD_nil, List.length_cons, List.length_nil, List.map_cons, List.map_nil, List.sum_cons, List.sum_nil, Nat.reduceAdd, Nat.reduceLeDiff, Value.category, Option.toList, true_or, or_true, z_ua, ↓reduceIte, Nat.reduceEqDiff, eq_self, not_true_eq_false, not_false_eq_true, false_implies, true_implies, Classical.not_not, Nat.le_refl, Nat.zero_le, nI_1]
      try dsimp only
      exact c100_loop hS hj hd hm hs hN hN16 hQ k (i + 1) (by omega)
    refine zW_ok hj B100_5 5 _ _ _ _ _ b100_5 ?_
    simp only [B100_5, zW, z_wp1, z_ld, z_f0, z_f1, z_f2, z_f3, List.getElem?_cons_zero, List.getElem?_cons_succ, true_and, and_true, Int32.reduceOfInt, z_i10, z_i01, Int32.reduceLT, Int32.reduceLE, Int32.reduceAdd, Int32.reduceSub, z_set, z_set2, z_kil, List.set_cons_zero, List.set_cons_succ, List.take_succ_cons, List.take_zero, List.drop_succ_cons, List.drop_zero, List.reverse_cons, List.reverse_nil, List.nil_append, List.cons_append, List.getD_cons_succ, List.getD_cons_zero, List.getD_nil, List.length_cons, List.length_nil, List.map_cons, List.map_nil, List.sum_cons, List.sum_nil, Nat.reduceAdd, Nat.reduceLeDiff, Value.category, Option.toList, true_or, or_true, z_ua, ↓reduceIte, Nat.reduceEqDiff, eq_self, not_true_eq_false, not_false_eq_true, false_implies, true_implies, Classical.not_not, Nat.le_refl, Nat.zero_le, sK10 hS, hN]
    try dsimp only
    refine ⟨fun hc => absurd hc (nI_ge (by omega) (by omega)), fun _ => ?_⟩
    refine z_callD (c98 hS (f := i) (by omega) mode) (by omega) (by omega) (by omega) (Nat.le_of_ble_eq_true rfl) ?_
    try simp only [zW, z_wp1, z_ld, z_f0, z_f1, z_f2, z_f3, List.getElem?_cons_zero, List.getElem?_cons_succ, true_and, and_true, Int32.reduceOfInt, z_i10, z_i01, Int32.reduceLT, Int32.reduceLE, Int32.reduceAdd, Int32.reduceSub, z_set, z_set2, z_kil, List.set_cons_zero, List.set_cons_succ, List.take_succ_cons, List.take_zero, List.drop_succ_cons, List.drop_zero, List.reverse_cons, List.reverse_nil, List.nil_append, List.cons_append, List.getD_cons_succ, List.getD_cons_zero, List.getD_nil, List.length_cons, List.length_nil, List.map_cons, List.map_nil, List.sum_cons, List.sum_nil, Nat.reduceAdd, Nat.reduceLeDiff, Value.category, Option.toList, true_or, or_true, z_ua, ↓reduceIte, Nat.reduceEqDiff, eq_self, not_true_eq_false, not_false_eq_true, false_implies, true_implies, Classical.not_not, Nat.le_refl, Nat.zero_le]
    try dsimp only
    refine ⟨fun h1 => go _ ?_, fun h1 => go _ ?_⟩
    · rw [m_have, if_neg h1]
    · rw [m_have, if_pos h1]
theorem c100 (hS : SS K L G) {F : Nat} (hN : I 10 0 = nI F) (hN16 : F ≤ 16) (set mode : Int32) : z_D l 1 100 [.ref 10, .int set, .int mode] (n, K, L, I, J, G) (some (.int (m_have (x_row (I 16) (I 17) mode) set F))) (n, K, L, I, J, G) := by
  refine z_ctr (by decide) (by decide +kernel) (Nat.le_of_ble_eq_true rfl) (by decide +kernel) (fun X hl hj hd hm hs hsc hQ => ?_)
  show zV X 0 [some (.ref 10), some (.int set), some (.int mode), none, none] [] _ 0 0
  refine zW_ok hj B100_0 0 _ _ _ _ _ b100_0 ?_
  simp only [B100_0, zW, z_wp1, z_ld, z_f0, z_f1, z_f2, z_f3, List.getElem?_cons_zero, List.getElem?_cons_succ, true_and, and_true, Int32.reduceOfInt, z_i10, z_i01, Int32.reduceLT, Int32.reduceLE, Int32.reduceAdd, Int32.reduceSub, z_set, z_set2, z_kil, List.set_cons_zero, List.set_cons_succ, List.take_succ_cons, List.take_zero, List.drop_succ_cons, List.drop_zero, List.reverse_cons, List.reverse_nil, List.nil_append, List.cons_append, List.getD_cons_succ, List.getD_cons_zero, List.getD_nil, List.length_cons, List.length_nil, List.map_cons, List.map_nil, List.sum_cons, List.sum_nil, Nat.reduceAdd, Nat.reduceLeDiff, Value.category, Option.toList, true_or, or_true, z_ua, ↓reduceIte, Nat.reduceEqDiff, eq_self, not_true_eq_false, not_false_eq_true, false_implies, true_implies, Classical.not_not, Nat.le_refl, Nat.zero_le]
  try dsimp only
  exact c100_loop hS hj hd hm hs hN hN16 hQ F 0 (by omega)
theorem c101_loop {X : zX} (hS : SS K L G) (hj : X.2.1 = 101) (hd : X.2.2.1 = 1) (hm : X.2.2.2.1 = 0) (hs : X.2.2.2.2.1 = 0) {set mode a0 : Int32} {F : Nat} (hN : I 10 0 = nI F) (hN16 : F ≤ 16) (hQ : ∀ r h', r = some (.int (m_clo (x_row (I 16) (I 17) mode) set a0 F)) ∧ h' = (n, K, L, I, J, G) → X.2.2.2.2.2.2 r h') : ∀ k i : Nat, i + k = F → zV X 15 [some (.ref 10), some (.int set), some (.int mode), some (.int (m_clo (x_row (I 16) (I 17) mode) set a0 i)), some (.int (nI i)), none] [] (n, K, L, I, J, G) 0 0
  | 0, i, hi => by
    have e : i = F := by omega
    subst e
    refine zW_ok hj B101_15 15 _ _ _ _ _ b101_15 ?_
    simp only [B101_15, zW, z_wp1, z_ld, z_f0, z_f1, z_f2, z_f3, List.getElem?_cons_zero, List.getElem?_cons_succ, true_and, and_true, Int32.reduceOfInt, z_i10, z_i01, Int32.reduceLT, Int32.reduceLE, Int32.reduceAdd, Int32.reduceSub, z_set, z_set2, z_kil, List.set_cons_zero, List.set_cons_succ, List.take_succ_cons, List.take_zero, List.drop_succ_cons, List.drop_zero, List.reverse_cons, List.reverse_nil, List.nil_append, List.cons_append, List.getD_cons_succ, List.getD_cons_zero, List.getD_nil, List.length_cons, List.length_nil, List.map_cons, List.map_nil, List.sum_cons, List.sum_nil, Nat.reduceAdd, Nat.reduceLeDiff, Value.category, Option.toList, true_or, or_true, z_ua, ↓reduceIte, Nat.reduceEqDiff, eq_self, not_true_eq_false, not_false_eq_true, false_implies, true_implies, Classical.not_not, Nat.le_refl, Nat.zero_le, sK10 hS, hN]
    try dsimp only
    refine ⟨fun _ => ?_, fun hc => absurd (nI_le (Nat.le_refl _) (by omega)) hc⟩
    refine zW_ok hj B101_52 52 _ _ _ _ _ b101_52 ?_
    simp only [B101_52, zW, z_wp1, z_ld, z_f0, z_f1, z_f2, z_f3, List.getElem?_cons_zero, List.getElem?_cons_succ, true_and, and_true, Int32.reduceOfInt, z_i10, z_i01, Int32.reduceLT, Int32.reduceLE, Int32.reduceAdd, Int32.reduceSub, z_set, z_set2, z_kil, List.set_cons_zero, List.set_cons_succ, List.take_succ_cons, List.take_zero, List.drop_succ_cons, List.drop_zero, List.reverse_cons, List.reverse_nil, List.nil_append, List.cons_append, List.getD_cons_succ, List.getD_cons_zero, List.getD_nil, List.length_cons, List.length_nil, List.map_cons, List.map_nil, List.sum_cons, List.sum_nil, Nat.reduceAdd, Nat.reduceLeDiff, Value.category, Option.toList, true_or, or_true, z_ua, ↓reduceIte, Nat.reduceEqDiff, eq_self, not_true_eq_false, not_false_eq_true, false_implies, true_implies, Classical.not_not, Nat.le_refl, Nat.zero_le]
    try dsimp only
    exact hQ _ _ ⟨rfl, rfl⟩
  | k + 1, i, hi => by
    have go : ∀ (a : Int32) (x : Option Value), a = m_clo (x_row (I 16) (I 17) mode) set a0 (i + 1) → zV X 46 [some (.ref 10), some (.int set), some (.int mode), some (.int a), some (.int (nI i)), x] [] (n, K, L, I, J, G) 0 0 := fun a x ha => by
      subst ha
      refine zW_ok hj B101_46 46 _ _ _ _ _ b101_46 ?_
      simp only [B101_46, zW, z_wp1, z_ld, z_f0, z_f1, z_f2, z_f3, List.getElem?_cons_zero, List.getElem?_cons_succ, true_and, and_true, Int32.reduceOfInt, z_i10, z_i01, Int32.reduceLT, Int32.reduceLE, Int32.reduceAdd, Int32.reduceSub, z_set, z_set2, z_kil, List.set_cons_zero, List.set_cons_succ, List.take_succ_cons, List.take_zero, List.drop_succ_cons, List.drop_zero, List.reverse_cons, List.reverse_nil, List.nil_append, List.cons_append, List.getD_cons_succ, List.getD_cons_zero, List.getD_nil, List.length_cons, List.length_nil, List.map_cons, List.map_nil, List.sum_cons, List.sum_nil, Nat.reduceAdd, Nat.reduceLeDiff, Value.category, Option.toList, true_or, or_true, z_ua, ↓reduceIte, Nat.reduceEqDiff, eq_self, not_true_eq_false, not_false_eq_true, false_implies, true_implies, Classical.not_not, Nat.le_refl, Nat.zero_le, nI_1]
      try dsimp only
      exact (c101_loop hS hj hd hm hs hN hN16 hQ k (i + 1) (by omega)).weak (by simp only [z_le]; simp)
    refine zW_ok hj B101_15 15 _ _ _ _ _ b101_15 ?_
    simp only [B101_15, zW, z_wp1, z_ld, z_f0, z_f1, z_f2, z_f3, List.getElem?_cons_zero, List.getElem?_cons_succ, true_and, and_true, Int32.reduceOfInt, z_i10, z_i01, Int32.reduceLT, Int32.reduceLE, Int32.reduceAdd, Int32.reduceSub, z_set, z_set2, z_kil, List.set_cons_zero, List.set_cons_succ, List.take_succ_cons, List.take_zero, List.drop_succ_cons, List.drop_zero, List.reverse_cons, List.reverse_nil, List.nil_append, List.cons_append, List.getD_cons_succ, List.getD_cons_zero, List.getD_nil, List.length_cons, List.length_nil, List.map_cons, List.map_nil, List.sum_cons, List.sum_nil, Nat.reduceAdd, Nat.reduceLeDiff, Value.category, Option.toList, true_or, or_true, z_ua, ↓reduceIte, Nat.reduceEqDiff, eq_self, not_true_eq_false, not_false_eq_true, false_implies, true_implies, Classical.not_not, Nat.le_refl, Nat.zero_le, sK10 hS, hN]
    try dsimp only
    refine ⟨fun hc => absurd hc (nI_ge (by omega) (by omega)), fun _ => ?_⟩
    refine z_callD (c98 hS (f := i) (by omega) mode) (by omega) (by omega) (by omega) (Nat.le_of_ble_eq_true rfl) ?_
    try simp only [zW, z_wp1, z_ld, z_f0, z_f1, z_f2, z_f3, List.getElem?_cons_zero, List.getElem?_cons_succ, true_and, and_true, Int32.reduceOfInt, z_i10, z_i01, Int32.reduceLT, Int32.reduceLE, Int32.reduceAdd, Int32.reduceSub, z_set, z_set2, z_kil, List.set_cons_zero, List.set_cons_succ, List.take_succ_cons, List.take_zero, List.drop_succ_cons, List.drop_zero, List.reverse_cons, List.reverse_nil, List.nil_append, List.cons_append, List.getD_cons_succ, List.getD_cons_zero, List.getD_nil, List.length_cons, List.length_nil, List.map_cons, List.map_nil, List.sum_cons, List.sum_nil, Nat.reduceAdd, Nat.reduceLeDiff, Value.category, Option.toList, true_or, or_true, z_ua, ↓reduceIte, Nat.reduceEqDiff, eq_self, not_true_eq_false, not_false_eq_true, false_implies, true_implies, Classical.not_not, Nat.le_refl, Nat.zero_le]
    try dsimp only
    refine ⟨fun h1 => go _ _ ?_, fun h1 => go _ _ ?_⟩
    · rw [m_clo, if_neg h1]
    · rw [m_clo, if_pos h1]
theorem c101 (hS : SS K L G) (hC : XC G cd) {F N : Nat} (hN : I 10 0 = nI F) (hN16 : F ≤ 16) (hM : I cd 3 = nI N) (hM12 : N ≤ 12) (set mode : Int32) : z_D l 1 101 [.ref 10, .int set, .int mode] (n, K, L, I, J, G) (some (.int (m_clo (x_row (I 16) (I 17) mode) set (nI (2 ^ N) - 1) F))) (n, K, L, I, J, G) := by
  have hk := (XD_of hS hC.1).1
  have hg := hC.2.1
  refine z_ctr (by decide) (by decide +kernel) (Nat.le_of_ble_eq_true rfl) (by decide +kernel) (fun X hl hj hd hm hs hsc hQ => ?_)
  show zV X 0 [some (.ref 10), some (.int set), some (.int mode), none, none, none] [] _ 0 0
  refine zW_ok hj B101_0 0 _ _ _ _ _ b101_0 ?_
  simp only [B101_0, zW, z_wp1, z_ld, z_f0, z_f1, z_f2, z_f3, List.getElem?_cons_zero, List.getElem?_cons_succ, true_and, and_true, Int32.reduceOfInt, z_i10, z_i01, Int32.reduceLT, Int32.reduceLE, Int32.reduceAdd, Int32.reduceSub, z_set, z_set2, z_kil, List.set_cons_zero, List.set_cons_succ, List.take_succ_cons, List.take_zero, List.drop_succ_cons, List.drop_zero, List.reverse_cons, List.reverse_nil, List.nil_append, List.cons_append, List.getD_cons_succ, List.getD_cons_zero, List.getD_nil, List.length_cons, List.length_nil, List.map_cons, List.map_nil, List.sum_cons, List.sum_nil, Nat.reduceAdd, Nat.reduceLeDiff, Value.category, Option.toList, true_or, or_true, z_ua, ↓reduceIte, Nat.reduceEqDiff, eq_self, not_true_eq_false, not_false_eq_true, false_implies, true_implies, Classical.not_not, Nat.le_refl, Nat.zero_le, sK10 hS, hk, hg, hM, z_shl1 (show N < 17 by omega)]
  try dsimp only
  exact c101_loop hS hj hd hm hs hN hN16 hQ F 0 (by omega)
end X2
