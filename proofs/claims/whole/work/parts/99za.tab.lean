/-! The table once more: what stays beyond the finds -/
section TAB
variable {l : Launch} {n : Nat} {K L : Nat → Nat} {I : Nat → Nat → Int32} {J : Nat → Nat → Int64} {G : Nat → Nat → Value} {cd F N : Nat} {tr : Nat → (Int32 → Int32) → Int32}
theorem c95s_loop {X : zX} (hS : SS K L G) (hj : X.2.1 = 95) (hF : I 10 0 = nI F) (hF16 : F ≤ 16) (hQ : ∀ r h', (r = none ∧ ∃ I', h' = (n, K, L, z_u I' 10 10 (I 10 10 + 1), J, G) ∧ (∀ q, q ≠ 18 → I' q = I q) ∧ (∀ f, f < F → I' 18 f = 0) ∧ ∀ f, F ≤ f → I' 18 f = I 18 f) → X.2.2.2.2.2.2 r h') : ∀ (k i : Nat) (I' : Nat → Nat → Int32), i + k = F → (∀ q, q ≠ 18 → I' q = I q) → (∀ f, f < i → I' 18 f = 0) → (∀ f, i ≤ f → I' 18 f = I 18 f) → zV X 2 [some (.ref 10), some (.int (nI i))] [] (n, K, L, I', J, G) 0 0
  | 0, i, I', hi, ho, hg, hu => by
    have e : i = F := by omega
    subst e
    have g10 : I' 10 = I 10 := ho 10 (by decide)
    refine zW_ok hj B95_2 2 _ _ _ _ _ b95_2 ?_
    simp only [B95_2, zW, z_wp1, z_ld, z_f0, z_f1, z_f2, z_f3, List.getElem?_cons_zero, List.getElem?_cons_succ, true_and, and_true, Int32.reduceOfInt, z_i10, z_i01, Int32.reduceLT, Int32.reduceLE, Int32.reduceAdd, Int32.reduceSub, z_set, z_set2, z_kil, List.set_cons_zero, List.set_cons_succ, List.take_succ_cons, List.take_zero, List.drop_succ_cons, List.drop_zero, List.reverse_cons, List.reverse_nil, List.nil_append, List.cons_append, List.getD_cons_succ, List.getD_cons_zero, List.getD_nil, List.length_cons, List.length_nil, List.map_cons, List.map_nil, List.sum_cons, List.sum_nil, Nat.reduceAdd, Nat.reduceLeDiff, Value.category, Option.toList, true_or, or_true, z_ua, ↓reduceIte, Nat.reduceEqDiff, eq_self, not_true_eq_false, not_false_eq_true, false_implies, true_implies, Classical.not_not, Nat.le_refl, Nat.zero_le, sK10 hS, g10, hF]
    try dsimp only
    refine ⟨fun _ => ?_, fun q => absurd (nI_le (Nat.le_refl _) (by omega)) q⟩
    refine zW_ok hj B95_23 23 _ _ _ _ _ b95_23 ?_
    simp only [B95_23, zW, z_wp1, z_ld, z_f0, z_f1, z_f2, z_f3, List.getElem?_cons_zero, List.getElem?_cons_succ, true_and, and_true, Int32.reduceOfInt, z_i10, z_i01, Int32.reduceLT, Int32.reduceLE, Int32.reduceAdd, Int32.reduceSub, z_set, z_set2, z_kil, List.set_cons_zero, List.set_cons_succ, List.take_succ_cons, List.take_zero, List.drop_succ_cons, List.drop_zero, List.reverse_cons, List.reverse_nil, List.nil_append, List.cons_append, List.getD_cons_succ, List.getD_cons_zero, List.getD_nil, List.length_cons, List.length_nil, List.map_cons, List.map_nil, List.sum_cons, List.sum_nil, Nat.reduceAdd, Nat.reduceLeDiff, Value.category, Option.toList, true_or, or_true, z_ua, ↓reduceIte, Nat.reduceEqDiff, eq_self, not_true_eq_false, not_false_eq_true, false_implies, true_implies, Classical.not_not, Nat.le_refl, Nat.zero_le, sK10 hS, g10]
    try dsimp only
    exact hQ _ _ ⟨rfl, I', rfl, ho, hg, hu⟩
  | k + 1, i, I', hi, ho, hg, hu => by
    have g10 : I' 10 = I 10 := ho 10 (by decide)
    have e2 : (nI i).toNatClampNeg = i := nI_clamp (by omega)
    have v2 : vp_in (nI i) 16 := vp_in_nI (by omega) (by omega)
    refine zW_ok hj B95_2 2 _ _ _ _ _ b95_2 ?_
    simp only [B95_2, zW, z_wp1, z_ld, z_f0, z_f1, z_f2, z_f3, List.getElem?_cons_zero, List.getElem?_cons_succ, true_and, and_true, Int32.reduceOfInt, z_i10, z_i01, Int32.reduceLT, Int32.reduceLE, Int32.reduceAdd, Int32.reduceSub, z_set, z_set2, z_kil, List.set_cons_zero, List.set_cons_succ, List.take_succ_cons, List.take_zero, List.drop_succ_cons, List.drop_zero, List.reverse_cons, List.reverse_nil, List.nil_append, List.cons_append, List.getD_cons_succ, List.getD_cons_zero, List.getD_nil, List.length_cons, List.length_nil, List.map_cons, List.map_nil, List.sum_cons, List.sum_nil, Nat.reduceAdd, Nat.reduceLeDiff, Value.category, Option.toList, true_or, or_true, z_ua, ↓reduceIte, Nat.reduceEqDiff, eq_self, not_true_eq_false, not_false_eq_true, false_implies, true_implies, Classical.not_not, Nat.le_refl, Nat.zero_le, sK10 hS, g10, hF, sG10_7 hS, sK18 hS, sL18 hS, e2, v2, z_nb0, nI_1]
    try dsimp only
    refine ⟨fun q => absurd q (nI_ge (by omega) (by omega)), fun _ => c95s_loop hS hj hF hF16 hQ k (i + 1) _ (by omega) (fun q hq => by rw [z_u_ne hq]; exact ho q hq) (fun f hf => ?_) (fun f hf => by rw [z_u_at, if_neg (by omega)]; exact hu f (by omega))⟩
    rw [z_u_at]
    rcases Nat.lt_or_ge f i with q | q
    · rw [if_neg (by omega)]; exact hg f q
    · rw [if_pos (by omega)]
theorem c95s (hS : SS K L G) (hF : I 10 0 = nI F) (hF16 : F ≤ 16) : z_Ctr l 0 95 [.ref 10] (n, K, L, I, J, G) 0 0 (fun r h' => r = none ∧ ∃ I', h' = (n, K, L, z_u I' 10 10 (I 10 10 + 1), J, G) ∧ (∀ q, q ≠ 18 → I' q = I q) ∧ (∀ f, f < F → I' 18 f = 0) ∧ ∀ f, F ≤ f → I' 18 f = I 18 f) := by
  refine z_ctr (by decide) (by decide +kernel) (Nat.le_of_ble_eq_true rfl) (by decide +kernel) (fun X hl hj hd hm hs hsc hQ => ?_)
  show zV X 0 [some (.ref 10), none] [] _ 0 0
  refine zW_ok hj B95_0 0 _ _ _ _ _ b95_0 ?_
  simp only [B95_0, zW, z_wp1, z_ld, z_f0, z_f1, z_f2, z_f3, List.getElem?_cons_zero, List.getElem?_cons_succ, true_and, and_true, Int32.reduceOfInt, z_i10, z_i01, Int32.reduceLT, Int32.reduceLE, Int32.reduceAdd, Int32.reduceSub, z_set, z_set2, z_kil, List.set_cons_zero, List.set_cons_succ, List.take_succ_cons, List.take_zero, List.drop_succ_cons, List.drop_zero, List.reverse_cons, List.reverse_nil, List.nil_append, List.cons_append, List.getD_cons_succ, List.getD_cons_zero, List.getD_nil, List.length_cons, List.length_nil, List.map_cons, List.map_nil, List.sum_cons, List.sum_nil, Nat.reduceAdd, Nat.reduceLeDiff, Value.category, Option.toList, true_or, or_true, z_ua, ↓reduceIte, Nat.reduceEqDiff, eq_self, not_true_eq_false, not_false_eq_true, false_implies, true_implies, Classical.not_not, Nat.le_refl, Nat.zero_le]
  try dsimp only
  exact c95s_loop hS hj hF hF16 hQ F 0 I (by omega) (fun _ _ => rfl) (fun f h => absurd h (by omega)) (fun _ _ => rfl)
theorem c96s_loop {X : zX} (hS : SS K L G) (hC : XC G cd) (hj : X.2.1 = 96) (hd : X.2.2.1 = 5) (hm : X.2.2.2.1 = 0) (hs : X.2.2.2.2.1 = 0) (hF : I 10 0 = nI F) (hF16 : F ≤ 16) (hsc0 : x_scale I cd N tr) (hfr : x_fr I N F tr) (hQ : ∀ r h', (r = none ∧ ∃ I', h' = (n, K, L, I', J, G) ∧ x_ff I I' cd ∧ (∀ f, f < F → I' 16 f = x_bits (x_T I tr f) 1 N ∧ I' 17 f = x_bits (x_T I tr f) 2 N ∧ ¬ I' 18 f = 0) ∧ ∀ f, F ≤ f → I' 18 f = I 18 f) → X.2.2.2.2.2.2 r h') : ∀ (k i : Nat) (I' : Nat → Nat → Int32), i + k = F → x_ff I I' cd → (∀ f, f < i → I' 16 f = x_bits (x_T I tr f) 1 N ∧ I' 17 f = x_bits (x_T I tr f) 2 N ∧ ¬ I' 18 f = 0) → (∀ f, i ≤ f → I' 16 f = I 16 f ∧ I' 17 f = I 17 f ∧ I' 18 f = I 18 f) → zV X 2 [some (.ref 10), some (.int (nI i))] [] (n, K, L, I', J, G) 0 0
  | 0, i, I', hk, ho, g1, g2 => by
    have c1 := hC.1
    have e : i = F := by omega
    subst e
    have hF' : I' 10 0 = nI i := by rw [ho.1 10 (by omega) (by omega) (by omega) (by omega) (by omega) (by omega)]; exact hF
    refine zW_ok hj B96_2 2 _ _ _ _ _ b96_2 ?_
    simp only [B96_2, zW, z_wp1, z_ld, z_f0, z_f1, z_f2, z_f3, List.getElem?_cons_zero, List.getElem?_cons_succ, true_and, and_true, Int32.reduceOfInt, z_i10, z_i01, Int32.reduceLT, Int32.reduceLE, Int32.reduceAdd, Int32.reduceSub, z_set, z_set2, z_kil, List.set_cons_zero, List.set_cons_succ, List.take_succ_cons, List.take_zero, List.drop_succ_cons, List.drop_zero, List.reverse_cons, List.reverse_nil, List.nil_append, List.cons_append, List.getD_cons_succ, List.getD_cons_zero, List.getD_nil, List.length_cons, List.length_nil, List.map_cons, List.map_nil, List.sum_cons, List.sum_nil, Nat.reduceAdd, Nat.reduceLeDiff, Value.category, Option.toList, true_or, or_true, z_ua, ↓reduceIte, Nat.reduceEqDiff, eq_self, not_true_eq_false, not_false_eq_true, false_implies, true_implies, Classical.not_not, Nat.le_refl, Nat.zero_le, sK10 hS, hF']
    try dsimp only
    refine ⟨fun _ => ?_, fun hc => absurd (nI_le (Nat.le_refl _) (by omega)) hc⟩
    refine zW_ok hj B96_30 30 _ _ _ _ _ b96_30 ?_
    simp only [B96_30, zW, z_wp1, z_ld, z_f0, z_f1, z_f2, z_f3, List.getElem?_cons_zero, List.getElem?_cons_succ, true_and, and_true, Int32.reduceOfInt, z_i10, z_i01, Int32.reduceLT, Int32.reduceLE, Int32.reduceAdd, Int32.reduceSub, z_set, z_set2, z_kil, List.set_cons_zero, List.set_cons_succ, List.take_succ_cons, List.take_zero, List.drop_succ_cons, List.drop_zero, List.reverse_cons, List.reverse_nil, List.nil_append, List.cons_append, List.getD_cons_succ, List.getD_cons_zero, List.getD_nil, List.length_cons, List.length_nil, List.map_cons, List.map_nil, List.sum_cons, List.sum_nil, Nat.reduceAdd, Nat.reduceLeDiff, Value.category, Option.toList, true_or, or_true, z_ua, ↓reduceIte, Nat.reduceEqDiff, eq_self, not_true_eq_false, not_false_eq_true, false_implies, true_implies, Classical.not_not, Nat.le_refl, Nat.zero_le]
    try dsimp only
    exact hQ _ _ ⟨rfl, I', rfl, ho, g1, fun f hf => (g2 f hf).2.2⟩
  | k + 1, i, I', hk, ho, g1, g2 => by
    have c1 := hC.1
    have hF' : I' 10 0 = nI F := by rw [ho.1 10 (by omega) (by omega) (by omega) (by omega) (by omega) (by omega)]; exact hF
    have h1 : (nI i).toNatClampNeg = i := nI_clamp (by omega)
    have v1 : vp_in (nI i) 16 := vp_in_nI (by omega) (by omega)
    refine zW_ok hj B96_2 2 _ _ _ _ _ b96_2 ?_
    simp only [B96_2, zW, z_wp1, z_ld, z_f0, z_f1, z_f2, z_f3, List.getElem?_cons_zero, List.getElem?_cons_succ, true_and, and_true, Int32.reduceOfInt, z_i10, z_i01, Int32.reduceLT, Int32.reduceLE, Int32.reduceAdd, Int32.reduceSub, z_set, z_set2, z_kil, List.set_cons_zero, List.set_cons_succ, List.take_succ_cons, List.take_zero, List.drop_succ_cons, List.drop_zero, List.reverse_cons, List.reverse_nil, List.nil_append, List.cons_append, List.getD_cons_succ, List.getD_cons_zero, List.getD_nil, List.length_cons, List.length_nil, List.map_cons, List.map_nil, List.sum_cons, List.sum_nil, Nat.reduceAdd, Nat.reduceLeDiff, Value.category, Option.toList, true_or, or_true, z_ua, ↓reduceIte, Nat.reduceEqDiff, eq_self, not_true_eq_false, not_false_eq_true, false_implies, true_implies, Classical.not_not, Nat.le_refl, Nat.zero_le, sK10 hS, sG10_7 hS, sK18 hS, sL18 hS, hF', h1, v1]
    try dsimp only
    refine ⟨fun hc => absurd hc (nI_ge (by omega) (by omega)), fun _ => ⟨fun h => ?_, fun h => ?_⟩⟩
    · refine zW_ok hj B96_24 24 _ _ _ _ _ b96_24 ?_
      simp only [B96_24, zW, z_wp1, z_ld, z_f0, z_f1, z_f2, z_f3, List.getElem?_cons_zero, List.getElem?_cons_succ, true_and, and_true, Int32.reduceOfInt, z_i10, z_i01, Int32.reduceLT, Int32.reduceLE, Int32.reduceAdd, Int32.reduceSub, z_set, z_set2, z_kil, List.set_cons_zero, List.set_cons_succ, List.take_succ_cons, List.take_zero, List.drop_succ_cons, List.drop_zero, List.reverse_cons, List.reverse_nil, List.nil_append, List.cons_append, List.getD_cons_succ, List.getD_cons_zero, List.getD_nil, List.length_cons, List.length_nil, List.map_cons, List.map_nil, List.sum_cons, List.sum_nil, Nat.reduceAdd, Nat.reduceLeDiff, Value.category, Option.toList, true_or, or_true, z_ua, ↓reduceIte, Nat.reduceEqDiff, eq_self, not_true_eq_false, not_false_eq_true, false_implies, true_implies, Classical.not_not, Nat.le_refl, Nat.zero_le, nI_1]
      try dsimp only
      refine c96s_loop hS hC hj hd hm hs hF hF16 hsc0 hfr hQ k (i + 1) I' (by omega) ho (fun f hf => ?_) (fun f hf => g2 f (by omega))
      by_cases e : f = i
      · subst e
        have g3 := g2 f (Nat.le_refl _)
        have g4 := hfr f (by omega) (by rw [← g3.2.2]; exact h)
        exact ⟨g3.1.trans g4.1, g3.2.1.trans g4.2, h⟩
      · exact g1 f (by omega)
    · refine z_callQ (c103 (I := I') hS hC (show i < 16 by omega) (ho.sc c1 hsc0)) (by omega) (by omega) (by omega) (Nat.le_of_ble_eq_true rfl) ?_
      rintro r h' ⟨rfl, I2, rfl, ho2, hg, h16, h17, h18⟩
      rw [ho.T c1] at h16 h17
      simp only [zW, z_wp1, z_ld, z_f0, z_f1, z_f2, z_f3, List.getElem?_cons_zero, List.getElem?_cons_succ, true_and, and_true, Int32.reduceOfInt, z_i10, z_i01, Int32.reduceLT, Int32.reduceLE, Int32.reduceAdd, Int32.reduceSub, z_set, z_set2, z_kil, List.set_cons_zero, List.set_cons_succ, List.take_succ_cons, List.take_zero, List.drop_succ_cons, List.drop_zero, List.reverse_cons, List.reverse_nil, List.nil_append, List.cons_append, List.getD_cons_succ, List.getD_cons_zero, List.getD_nil, List.length_cons, List.length_nil, List.map_cons, List.map_nil, List.sum_cons, List.sum_nil, Nat.reduceAdd, Nat.reduceLeDiff, Value.category, Option.toList, true_or, or_true, z_ua, ↓reduceIte, Nat.reduceEqDiff, eq_self, not_true_eq_false, not_false_eq_true, false_implies, true_implies, Classical.not_not, Nat.le_refl, Nat.zero_le]
      try dsimp only
      refine zW_ok hj B96_24 24 _ _ _ _ _ b96_24 ?_
      simp only [B96_24, zW, z_wp1, z_ld, z_f0, z_f1, z_f2, z_f3, List.getElem?_cons_zero, List.getElem?_cons_succ, true_and, and_true, Int32.reduceOfInt, z_i10, z_i01, Int32.reduceLT, Int32.reduceLE, Int32.reduceAdd, Int32.reduceSub, z_set, z_set2, z_kil, List.set_cons_zero, List.set_cons_succ, List.take_succ_cons, List.take_zero, List.drop_succ_cons, List.drop_zero, List.reverse_cons, List.reverse_nil, List.nil_append, List.cons_append, List.getD_cons_succ, List.getD_cons_zero, List.getD_nil, List.length_cons, List.length_nil, List.map_cons, List.map_nil, List.sum_cons, List.sum_nil, Nat.reduceAdd, Nat.reduceLeDiff, Value.category, Option.toList, true_or, or_true, z_ua, ↓reduceIte, Nat.reduceEqDiff, eq_self, not_true_eq_false, not_false_eq_true, false_implies, true_implies, Classical.not_not, Nat.le_refl, Nat.zero_le, nI_1]
      try dsimp only
      refine c96s_loop hS hC hj hd hm hs hF hF16 hsc0 hfr hQ k (i + 1) I2 (by omega) (ho.tr ho2) (fun f hf => ?_) (fun f hf => ?_)
      · by_cases e : f = i
        · subst e
          exact ⟨h16, h17, by rw [h18]; decide⟩
        · have g3 := hg f e
          have g4 := g1 f (by omega)
          rw [g3.1, g3.2.1, g3.2.2]
          exact g4
      · have g3 := hg f (by omega)
        have g4 := g2 f (by omega)
        rw [g3.1, g3.2.1, g3.2.2]
        exact g4
theorem c96s (hS : SS K L G) (hC : XC G cd) (hF : I 10 0 = nI F) (hF16 : F ≤ 16) (hsc0 : x_scale I cd N tr) (hfr : x_fr I N F tr) : z_Ctr l 5 96 [.ref 10] (n, K, L, I, J, G) 0 0 (fun r h' => r = none ∧ ∃ I', h' = (n, K, L, I', J, G) ∧ x_ff I I' cd ∧ (∀ f, f < F → I' 16 f = x_bits (x_T I tr f) 1 N ∧ I' 17 f = x_bits (x_T I tr f) 2 N ∧ ¬ I' 18 f = 0) ∧ ∀ f, F ≤ f → I' 18 f = I 18 f) := by
  refine z_ctr (by decide) (by decide +kernel) (Nat.le_of_ble_eq_true rfl) (by decide +kernel) (fun X hl hj hd hm hs hsc hQ => ?_)
  show zV X 0 [some (.ref 10), none] [] _ 0 0
  refine zW_ok hj B96_0 0 _ _ _ _ _ b96_0 ?_
  simp only [B96_0, zW, z_wp1, z_ld, z_f0, z_f1, z_f2, z_f3, List.getElem?_cons_zero, List.getElem?_cons_succ, true_and, and_true, Int32.reduceOfInt, z_i10, z_i01, Int32.reduceLT, Int32.reduceLE, Int32.reduceAdd, Int32.reduceSub, z_set, z_set2, z_kil, List.set_cons_zero, List.set_cons_succ, List.take_succ_cons, List.take_zero, List.drop_succ_cons, List.drop_zero, List.reverse_cons, List.reverse_nil, List.nil_append, List.cons_append, List.getD_cons_succ, List.getD_cons_zero, List.getD_nil, List.length_cons, List.length_nil, List.map_cons, List.map_nil, List.sum_cons, List.sum_nil, Nat.reduceAdd, Nat.reduceLeDiff, Value.category, Option.toList, true_or, or_true, z_ua, ↓reduceIte, Nat.reduceEqDiff, eq_self, not_true_eq_false, not_false_eq_true, false_implies, true_implies, Classical.not_not, Nat.le_refl, Nat.zero_le]
  try dsimp only
  exact c96s_loop hS hC hj hd hm hs hF hF16 hsc0 hfr hQ F 0 I (by omega) (x_ff.rf I cd) (fun f hf => by omega) (fun f hf => ⟨rfl, rfl, rfl⟩)
theorem c93s (hS : SS K L G) {c : Nat} (hc : I 6 3 = nI c) (hc4 : c ≤ 400) (hsl : ∀ t, t < c → ∃ s, s < 192 ∧ I 7 t = nI s) (hF : I 10 0 = nI F) (hF16 : F ≤ 16) (k d : Int32) : z_Ctr l 2 93 [.ref 10, .int k, .int d, .ref 6] (n, K, L, I, J, G) 0 0 (fun r h' => r = none ∧ ∃ I', h' = (n, K, L, z_u (z_u (z_u I' 10 1 k) 10 2 d) 10 10 (I 10 10 + 1), J, G) ∧ (∀ q, q ≠ 18 → q ≠ 11 → I' q = I q) ∧ (∀ s, s < 192 → I' 11 s = x_kn (I 7) (I 8) s (x_pl (I 9) d c 0)) ∧ (∀ f, f < F → I' 18 f = 0) ∧ ∀ f, F ≤ f → I' 18 f = I 18 f) := by
  refine z_ctr (by decide) (by decide +kernel) (Nat.le_of_ble_eq_true rfl) (by decide +kernel) (fun X hl hj hd hm hs hsc hQ => ?_)
  show zV X 0 [some (.ref 10), some (.int k), some (.int d), some (.ref 6)] [] _ 0 0
  refine zW_ok hj B93_0 0 _ _ _ _ _ b93_0 ?_
  simp only [B93_0, zW, z_wp1, z_ld, z_f0, z_f1, z_f2, z_f3, List.getElem?_cons_zero, List.getElem?_cons_succ, true_and, and_true, Int32.reduceOfInt, z_i10, z_i01, Int32.reduceLT, Int32.reduceLE, Int32.reduceAdd, Int32.reduceSub, z_set, z_set2, z_kil, List.set_cons_zero, List.set_cons_succ, List.take_succ_cons, List.take_zero, List.drop_succ_cons, List.drop_zero, List.reverse_cons, List.reverse_nil, List.nil_append, List.cons_append, List.getD_cons_succ, List.getD_cons_zero, List.getD_nil, List.length_cons, List.length_nil, List.map_cons, List.map_nil, List.sum_cons, List.sum_nil, Nat.reduceAdd, Nat.reduceLeDiff, Value.category, Option.toList, true_or, or_true, z_ua, ↓reduceIte, Nat.reduceEqDiff, eq_self, not_true_eq_false, not_false_eq_true, false_implies, true_implies, Classical.not_not, Nat.le_refl, Nat.zero_le, sK10 hS, sG10_3 hS, sK11 hS, sL11 hS, sK6 hS]
  try dsimp only
  refine z_callQ (c46 (I := z_u (z_u I 10 1 k) 10 2 d) hS (p := 11) (c := c) (day := d) (Or.inl rfl) (by simp [z_u]; exact hc) hc4 (by simp [z_u]; exact hsl)) (by omega) (by omega) (by omega) (Nat.le_of_ble_eq_true rfl) ?_
  rintro r h' ⟨rfl, I2, rfl, ho, hg⟩
  simp only [zW, z_wp1, z_ld, z_f0, z_f1, z_f2, z_f3, List.getElem?_cons_zero, List.getElem?_cons_succ, true_and, and_true, Int32.reduceOfInt, z_i10, z_i01, Int32.reduceLT, Int32.reduceLE, Int32.reduceAdd, Int32.reduceSub, z_set, z_set2, z_kil, List.set_cons_zero, List.set_cons_succ, List.take_succ_cons, List.take_zero, List.drop_succ_cons, List.drop_zero, List.reverse_cons, List.reverse_nil, List.nil_append, List.cons_append, List.getD_cons_succ, List.getD_cons_zero, List.getD_nil, List.length_cons, List.length_nil, List.map_cons, List.map_nil, List.sum_cons, List.sum_nil, Nat.reduceAdd, Nat.reduceLeDiff, Value.category, Option.toList, true_or, or_true, z_ua, ↓reduceIte, Nat.reduceEqDiff, eq_self, not_true_eq_false, not_false_eq_true, false_implies, true_implies, Classical.not_not, Nat.le_refl, Nat.zero_le, sK10 hS]
  try dsimp only
  have e10 : I2 10 = z_u (z_u I 10 1 k) 10 2 d 10 := ho 10 (by omega)
  refine z_callQ (c95s (I := I2) hS (F := F) (by rw [e10]; simp [z_u]; exact hF) hF16) (by omega) (by omega) (by omega) (Nat.le_of_ble_eq_true rfl) ?_
  rintro r h' ⟨rfl, I3, rfl, ho3, hg3, hu3⟩
  refine hQ _ _ ⟨rfl, fun q => if q = 10 then I 10 else I3 q, ?_, fun q a b => ?_, fun s hs' => ?_, fun f hf => ?_, fun f hf => ?_⟩
  · refine congrArg (fun z => (n, K, L, z, J, G)) ?_
    funext q i
    by_cases e : q = 10
    · subst e
      simp only [z_u, if_true]
      rw [ho3 10 (by omega), e10]
      by_cases e1 : i = 10
      · simp [e1, z_u]
      · simp [e1, z_u]
    · simp [z_u, e]
  · by_cases e : q = 10
    · simp [e]
    · simp only [if_neg e]
      rw [ho3 q a, ho q b, z_u_ne e, z_u_ne e]
  · simp only [show ¬ (11 : Nat) = 10 by omega, if_false]
    rw [ho3 11 (by omega), hg s hs']
    simp only [z_u_ne (show (7 : Nat) ≠ 10 by omega), z_u_ne (show (8 : Nat) ≠ 10 by omega), z_u_ne (show (9 : Nat) ≠ 10 by omega)]
  · simp only [show ¬ (18 : Nat) = 10 by omega, if_false]
    exact hg3 f hf
  · simp only [show ¬ (18 : Nat) = 10 by omega, if_false]
    rw [hu3 f hf, ho 18 (by omega), z_u_ne (by omega), z_u_ne (by omega)]
theorem c94s (hS : SS K L G) (hF : I 10 0 = nI F) (hF16 : F ≤ 16) (q : Nat) (hq5 : K q = 5) : z_Ctr l 1 94 [.ref 10, .ref q] (n, K, L, I, J, G) 0 0 (fun r h' => r = none ∧ ∃ I', h' = (n, K, L, z_u I' 10 10 (I 10 10 + 1), J, z_u G 10 4 (.ref q)) ∧ (∀ q, q ≠ 18 → I' q = I q) ∧ (∀ f, f < F → I' 18 f = 0) ∧ ∀ f, F ≤ f → I' 18 f = I 18 f) := by
  refine z_ctr (by decide) (by decide +kernel) (Nat.le_of_ble_eq_true rfl) (by decide +kernel) (fun X hl hj hd hm hs hsc hQ => ?_)
  show zV X 0 [some (.ref 10), some (.ref q)] [] _ 0 0
  refine zW_ok hj B94_0 0 _ _ _ _ _ b94_0 ?_
  simp only [B94_0, zW, z_wp1, z_ld, z_f0, z_f1, z_f2, z_f3, List.getElem?_cons_zero, List.getElem?_cons_succ, true_and, and_true, Int32.reduceOfInt, z_i10, z_i01, Int32.reduceLT, Int32.reduceLE, Int32.reduceAdd, Int32.reduceSub, z_set, z_set2, z_kil, List.set_cons_zero, List.set_cons_succ, List.take_succ_cons, List.take_zero, List.drop_succ_cons, List.drop_zero, List.reverse_cons, List.reverse_nil, List.nil_append, List.cons_append, List.getD_cons_succ, List.getD_cons_zero, List.getD_nil, List.length_cons, List.length_nil, List.map_cons, List.map_nil, List.sum_cons, List.sum_nil, Nat.reduceAdd, Nat.reduceLeDiff, Value.category, Option.toList, true_or, or_true, z_ua, ↓reduceIte, Nat.reduceEqDiff, eq_self, not_true_eq_false, not_false_eq_true, false_implies, true_implies, Classical.not_not, Nat.le_refl, Nat.zero_le, sK10 hS, hq5]
  try dsimp only
  have hS' : SS K L (z_u G 10 4 (.ref q)) := ⟨hS.1, hS.2.1, fun t ht => by
    have h := hS.2.2 t ht
    have hne : ¬ (t.1 = 10 ∧ t.2.1 = 4) := co_mem t ht
    rw [z_ua]
    by_cases e1 : t.1 = 10
    · rw [if_pos e1, if_neg (fun e2 => hne ⟨e1, e2⟩), ← e1]
      exact h
    · rw [if_neg e1]
      exact h⟩
  refine z_callQ (c95s (I := I) hS' (F := F) hF hF16) (by omega) (by omega) (by omega) (Nat.le_of_ble_eq_true rfl) ?_
  rintro r h' ⟨rfl, I3, rfl, ho3, hg3, hu3⟩
  exact hQ _ _ ⟨rfl, I3, rfl, ho3, hg3, hu3⟩
end TAB
