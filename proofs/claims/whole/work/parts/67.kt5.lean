/-! Keys of the class: prepare -/
def x_spl (w : Nat → Int32) (i : Nat) : Nat → Int32
  | 0 => 0
  | f + 1 => x_spl w i f ||| (w f >>> (nI i &&& 31) &&& 1) <<< (nI f &&& 31)
theorem zGr_1 {n : Nat} {K L : Nat → Nat} {J : Nat → Nat → Int64} {G : Nat → Nat → Value} {lp a kd len : Nat} (hlp : lp < n) : zGr n K L J G (z_w K n kd) (z_w L n len) (z_w J n (fun _ => 0)) (z_u (z_w G n (fun _ => .null)) lp a (.ref n)) lp a a ∧ z_u (z_w G n (fun _ => .null)) lp a (.ref n) lp a = .ref n := by
  refine ⟨⟨fun q hq => ?_, fun q hq hne => ?_, fun k h1 h2 => ?_⟩, ?_⟩
  · simp only [z_w_ne (show q ≠ n by omega)]
    exact ⟨trivial, trivial, trivial⟩
  · rw [z_u_ne hne, z_w_ne (by omega)]
  · rw [z_u_at, if_neg h2, z_w_ne (by omega)]
  · rw [z_u_at, if_pos rfl]
section KT5
variable {l : Launch} {n : Nat} {K L : Nat → Nat} {I : Nat → Nat → Int32} {J : Nat → Nat → Int64} {G : Nat → Nat → Value} {pp PL F N R s cd : Nat} {ys mb co : Nat → Int32}
theorem c21_in {X : zX} (hS : SS K L G) (hj : X.2.1 = 21) (hd : X.2.2.1 = 1) {i : Nat} (hi : i < 12) (hF : I 10 0 = nI F) (hF16 : F ≤ 16) (kk : ∀ I', (∀ q, q ≠ 55 → q ≠ 56 → I' q = I q) → (∀ g, g ≠ i → I' 55 g = I 55 g ∧ I' 56 g = I 56 g) → I' 55 i = x_spl (I 16) i F → I' 56 i = x_spl (I 17) i F → zV X 109 [some (.ref 53), some (.ref 10), some (.int (nI i)), some (.int (nI F))] [] (n, K, L, I', J, G) 0 0) : ∀ (k f : Nat) (I' : Nat → Nat → Int32), f + k = F → (∀ q, q ≠ 55 → q ≠ 56 → I' q = I q) → (∀ g, g ≠ i → I' 55 g = I 55 g ∧ I' 56 g = I 56 g) → I' 55 i = x_spl (I 16) i f → I' 56 i = x_spl (I 17) i f → zV X 54 [some (.ref 53), some (.ref 10), some (.int (nI i)), some (.int (nI f))] [] (n, K, L, I', J, G) 0 0
  | 0, f, I', hk, h1, h2, h3, h4 => by
    have e : f = F := by omega
    subst e
    have hF' : I' 10 0 = nI f := by rw [h1 10 (by omega) (by omega)]; exact hF
    refine zW_ok hj B21_54 54 _ _ _ _ _ b21_54 ?_
    simp only [B21_54, zW, z_wp1, z_ld, z_f0, z_f1, z_f2, z_f3, List.getElem?_cons_zero, List.getElem?_cons_succ, true_and, and_true, Int32.reduceOfInt, z_i10, z_i01, Int32.reduceLT, Int32.reduceLE, Int32.reduceAdd, Int32.reduceSub, z_set, z_set2, z_kil, List.set_cons_zero, List.set_cons_succ, List.take_succ_cons, List.take_zero, List.drop_succ_cons, List.drop_zero, List.reverse_cons, List.reverse_nil, List.nil_append, List.cons_append, List.getD_cons_succ, List.getD_cons_zero, List.getD_nil, List.length_cons, List.length_nil, List.map_cons, List.map_nil, List.sum_cons, List.sum_nil, Nat.reduceAdd, Nat.reduceLeDiff, Value.category, Option.toList, true_or, or_true, z_ua, ↓reduceIte, Nat.reduceEqDiff, eq_self, not_true_eq_false, not_false_eq_true, false_implies, true_implies, Classical.not_not, Nat.le_refl, Nat.zero_le, sK10 hS, hF']
    try dsimp only
    refine ⟨fun _ => kk I' h1 h2 h3 h4, fun hc => absurd (nI_le (Nat.le_refl _) (by omega)) hc⟩
  | k + 1, f, I', hk, h1, h2, h3, h4 => by
    have hF' : I' 10 0 = nI F := by rw [h1 10 (by omega) (by omega)]; exact hF
    have e1 : (nI i).toNatClampNeg = i := nI_clamp (by omega)
    have v1 : vp_in (nI i) 12 := vp_in_nI (by omega) (by omega)
    have e16 : I' 16 = I 16 := h1 16 (by omega) (by omega)
    have e17 : I' 17 = I 17 := h1 17 (by omega) (by omega)
    refine zW_ok hj B21_54 54 _ _ _ _ _ b21_54 ?_
    simp only [B21_54, zW, z_wp1, z_ld, z_f0, z_f1, z_f2, z_f3, List.getElem?_cons_zero, List.getElem?_cons_succ, true_and, and_true, Int32.reduceOfInt, z_i10, z_i01, Int32.reduceLT, Int32.reduceLE, Int32.reduceAdd, Int32.reduceSub, z_set, z_set2, z_kil, List.set_cons_zero, List.set_cons_succ, List.take_succ_cons, List.take_zero, List.drop_succ_cons, List.drop_zero, List.reverse_cons, List.reverse_nil, List.nil_append, List.cons_append, List.getD_cons_succ, List.getD_cons_zero, List.getD_nil, List.length_cons, List.length_nil, List.map_cons, List.map_nil, List.sum_cons, List.sum_nil, Nat.reduceAdd, Nat.reduceLeDiff, Value.category, Option.toList, true_or, or_true, z_ua, ↓reduceIte, Nat.reduceEqDiff, eq_self, not_true_eq_false, not_false_eq_true, false_implies, true_implies, Classical.not_not, Nat.le_refl, Nat.zero_le, sK10 hS, hF', sK53 hS, sG53_1 hS, sK55 hS, sL55 hS, e1, v1, h3]
    try dsimp only
    refine ⟨fun hc => absurd hc (nI_ge (by omega) (by omega)), fun _ => ?_⟩
    refine z_callD (c98 hS (f := f) (by omega) 0) (by omega) (by omega) (by omega) (Nat.le_of_ble_eq_true rfl) ?_
    try simp only [zW, z_wp1, z_ld, z_f0, z_f1, z_f2, z_f3, List.getElem?_cons_zero, List.getElem?_cons_succ, true_and, and_true, Int32.reduceOfInt, z_i10, z_i01, Int32.reduceLT, Int32.reduceLE, Int32.reduceAdd, Int32.reduceSub, z_set, z_set2, z_kil, List.set_cons_zero, List.set_cons_succ, List.take_succ_cons, List.take_zero, List.drop_succ_cons, List.drop_zero, List.reverse_cons, List.reverse_nil, List.nil_append, List.cons_append, List.getD_cons_succ, List.getD_cons_zero, List.getD_nil, List.length_cons, List.length_nil, List.map_cons, List.map_nil, List.sum_cons, List.sum_nil, Nat.reduceAdd, Nat.reduceLeDiff, Value.category, Option.toList, true_or, or_true, z_ua, ↓reduceIte, Nat.reduceEqDiff, eq_self, not_true_eq_false, not_false_eq_true, false_implies, true_implies, Classical.not_not, Nat.le_refl, Nat.zero_le, x_row, e16, sK53 hS, sG53_1 hS, sK55 hS, sL55 hS, sG53_2 hS, sK56 hS, sL56 hS, e1, v1, h4, sK10 hS]
    try dsimp only
    refine z_callD (c99 (I := z_u I' 55 i (x_spl (I 16) i f ||| (I 16 f >>> (nI i &&& 31) &&& 1) <<< (nI f &&& 31))) hS (f := f) (by omega)) (by omega) (by omega) (by omega) (Nat.le_of_ble_eq_true rfl) ?_
    try simp only [zW, z_wp1, z_ld, z_f0, z_f1, z_f2, z_f3, List.getElem?_cons_zero, List.getElem?_cons_succ, true_and, and_true, Int32.reduceOfInt, z_i10, z_i01, Int32.reduceLT, Int32.reduceLE, Int32.reduceAdd, Int32.reduceSub, z_set, z_set2, z_kil, List.set_cons_zero, List.set_cons_succ, List.take_succ_cons, List.take_zero, List.drop_succ_cons, List.drop_zero, List.reverse_cons, List.reverse_nil, List.nil_append, List.cons_append, List.getD_cons_succ, List.getD_cons_zero, List.getD_nil, List.length_cons, List.length_nil, List.map_cons, List.map_nil, List.sum_cons, List.sum_nil, Nat.reduceAdd, Nat.reduceLeDiff, Value.category, Option.toList, true_or, or_true, z_ua, ↓reduceIte, Nat.reduceEqDiff, eq_self, not_true_eq_false, not_false_eq_true, false_implies, true_implies, Classical.not_not, Nat.le_refl, Nat.zero_le, sK53 hS, sG53_2 hS, sK56 hS, sL56 hS, e1, v1, e17, nI_1]
    try dsimp only
    refine c21_in hS hj hd hi hF hF16 kk k (f + 1) _ (by omega) (fun q a b => by rw [z_u_ne b, z_u_ne a]; exact h1 q a b) (fun g hg => ⟨?_, ?_⟩) ?_ ?_
    · rw [z_u_ne (by decide), z_u_at, if_neg hg]; exact (h2 g hg).1
    · rw [z_u_at, if_neg hg, z_u_ne (by decide)]; exact (h2 g hg).2
    · rw [z_u_ne (by decide), z_u_at, if_pos rfl]; rfl
    · rw [z_u_at, if_pos rfl]; rfl
theorem c21_out {X : zX} (hS : SS K L G) (hj : X.2.1 = 21) (hd : X.2.2.1 = 1) (hF : I 10 0 = nI F) (hF16 : F ≤ 16) (hN : I 53 3 = nI N) (hN12 : N ≤ 12) (kk : ∀ I' x, (∀ q, q ≠ 55 → q ≠ 56 → I' q = I q) → (∀ i, i < N → I' 55 i = x_spl (I 16) i F ∧ I' 56 i = x_spl (I 17) i F) → zV X 115 [some (.ref 53), some (.ref 10), some (.int (nI N)), x] [] (n, K, L, I', J, G) 0 0) : ∀ (k i : Nat) (I' : Nat → Nat → Int32) (x : Option Value), i + k = N → (∀ q, q ≠ 55 → q ≠ 56 → I' q = I q) → (∀ g, g < i → I' 55 g = x_spl (I 16) g F ∧ I' 56 g = x_spl (I 17) g F) → zV X 30 [some (.ref 53), some (.ref 10), some (.int (nI i)), x] [] (n, K, L, I', J, G) 0 0
  | 0, i, I', x, hk, h1, h2 => by
    have e : i = N := by omega
    subst e
    have hN' : I' 53 3 = nI i := by rw [h1 53 (by omega) (by omega)]; exact hN
    refine zW_ok hj B21_30 30 _ _ _ _ _ b21_30 ?_
    simp only [B21_30, zW, z_wp1, z_ld, z_f0, z_f1, z_f2, z_f3, List.getElem?_cons_zero, List.getElem?_cons_succ, true_and, and_true, Int32.reduceOfInt, z_i10, z_i01, Int32.reduceLT, Int32.reduceLE, Int32.reduceAdd, Int32.reduceSub, z_set, z_set2, z_kil, List.set_cons_zero, List.set_cons_succ, List.take_succ_cons, List.take_zero, List.drop_succ_cons, List.drop_zero, List.reverse_cons, List.reverse_nil, List.nil_append, List.cons_append, List.getD_cons_succ, List.getD_cons_zero, List.getD_nil, List.length_cons, List.length_nil, List.map_cons, List.map_nil, List.sum_cons, List.sum_nil, Nat.reduceAdd, Nat.reduceLeDiff, Value.category, Option.toList, true_or, or_true, z_ua, ↓reduceIte, Nat.reduceEqDiff, eq_self, not_true_eq_false, not_false_eq_true, false_implies, true_implies, Classical.not_not, Nat.le_refl, Nat.zero_le, sK53 hS, hN']
    try dsimp only
    refine ⟨fun _ => kk I' x h1 h2, fun hc => absurd (nI_le (Nat.le_refl _) (by omega)) hc⟩
  | k + 1, i, I', x, hk, h1, h2 => by
    have hN' : I' 53 3 = nI N := by rw [h1 53 (by omega) (by omega)]; exact hN
    have hF' : I' 10 0 = nI F := by rw [h1 10 (by omega) (by omega)]; exact hF
    have e1 : (nI i).toNatClampNeg = i := nI_clamp (by omega)
    have v1 : vp_in (nI i) 12 := vp_in_nI (by omega) (by omega)
    refine zW_ok hj B21_30 30 _ _ _ _ _ b21_30 ?_
    simp only [B21_30, zW, z_wp1, z_ld, z_f0, z_f1, z_f2, z_f3, List.getElem?_cons_zero, List.getElem?_cons_succ, true_and, and_true, Int32.reduceOfInt, z_i10, z_i01, Int32.reduceLT, Int32.reduceLE, Int32.reduceAdd, Int32.reduceSub, z_set, z_set2, z_kil, List.set_cons_zero, List.set_cons_succ, List.take_succ_cons, List.take_zero, List.drop_succ_cons, List.drop_zero, List.reverse_cons, List.reverse_nil, List.nil_append, List.cons_append, List.getD_cons_succ, List.getD_cons_zero, List.getD_nil, List.length_cons, List.length_nil, List.map_cons, List.map_nil, List.sum_cons, List.sum_nil, Nat.reduceAdd, Nat.reduceLeDiff, Value.category, Option.toList, true_or, or_true, z_ua, ↓reduceIte, Nat.reduceEqDiff, eq_self, not_true_eq_false, not_false_eq_true, false_implies, true_implies, Classical.not_not, Nat.le_refl, Nat.zero_le, sK53 hS, hN', sG53_1 hS, sK55 hS, sL55 hS, sG53_2 hS, sK56 hS, sL56 hS, e1, v1]
    try dsimp only
    refine ⟨fun hc => absurd hc (nI_ge (by omega) (by omega)), fun _ => ?_⟩
    refine c21_in (I := z_u (z_u I' 55 i 0) 56 i 0) hS hj hd (show i < 12 by omega) (by simp [z_u]; exact hF') hF16 (fun I2 a1 a2 a3 a4 => ?_) F 0 _ (by omega) (fun _ _ _ => rfl) (fun _ _ => ⟨rfl, rfl⟩) (by rw [z_u_ne (by decide), z_u_at, if_pos rfl]; rfl) (by rw [z_u_at, if_pos rfl]; rfl)
    rw [z_u_ne (by decide), z_u_ne (by decide), h1 16 (by omega) (by omega)] at a3
    rw [z_u_ne (by decide), z_u_ne (by decide), h1 17 (by omega) (by omega)] at a4
    refine zW_ok hj B21_109 109 _ _ _ _ _ b21_109 ?_
    simp only [B21_109, zW, z_wp1, z_ld, z_f0, z_f1, z_f2, z_f3, List.getElem?_cons_zero, List.getElem?_cons_succ, true_and, and_true, Int32.reduceOfInt, z_i10, z_i01, Int32.reduceLT, Int32.reduceLE, Int32.reduceAdd, Int32.reduceSub, z_set, z_set2, z_kil, List.set_cons_zero, List.set_cons_succ, List.take_succ_cons, List.take_zero, List.drop_succ_cons, List.drop_zero, List.reverse_cons, List.reverse_nil, List.nil_append, List.cons_append, List.getD_cons_succ, List.getD_cons_zero, List.getD_nil, List.length_cons, List.length_nil, List.map_cons, List.map_nil, List.sum_cons, List.sum_nil, Nat.reduceAdd, Nat.reduceLeDiff, Value.category, Option.toList, true_or, or_true, z_ua, ↓reduceIte, Nat.reduceEqDiff, eq_self, not_true_eq_false, not_false_eq_true, false_implies, true_implies, Classical.not_not, Nat.le_refl, Nat.zero_le, nI_1]
    try dsimp only
    refine c21_out hS hj hd hF hF16 hN hN12 kk k (i + 1) I2 _ (by omega) (fun q a b => by rw [a1 q a b, z_u_ne b, z_u_ne a]; exact h1 q a b) (fun g hg => ?_)
    by_cases e : g = i
    · rw [e]; exact ⟨a3, a4⟩
    · rw [(a2 g e).1, (a2 g e).2, z_u_ne (by decide), z_u_at, if_neg e, z_u_at, if_neg e, z_u_ne (by decide)]
      exact h2 g (by omega)
theorem nI_rnd {R : Nat} (h : R < 2 ^ 18) : nI R + 1 &&& 1048575 = nI (R + 1) := by
  rw [nI_1, show (1048575 : Int32) = nI (2 ^ 20 - 1) by decide, nI_and (by omega) (by omega), Nat.and_two_pow_sub_one_eq_mod]
  congr 1
  omega
theorem c21o (hS : SS K L G) (h : I 53 6 = I 10 10) : z_D l 1 21 [.ref 53, .ref 10] (n, K, L, I, J, G) none (n, K, L, I, J, G) := by
  refine z_ctr (by decide) (by decide +kernel) (Nat.le_of_ble_eq_true rfl) (by decide +kernel) (fun X hl hj hd hm hs hsc hQ => ?_)
  show zV X 0 [some (.ref 53), some (.ref 10), none, none] [] _ 0 0
  refine zW_ok hj B21_0 0 _ _ _ _ _ b21_0 ?_
  simp only [B21_0, zW, z_wp1, z_ld, z_f0, z_f1, z_f2, z_f3, List.getElem?_cons_zero, List.getElem?_cons_succ, true_and, and_true, Int32.reduceOfInt, z_i10, z_i01, Int32.reduceLT, Int32.reduceLE, Int32.reduceAdd, Int32.reduceSub, z_set, z_set2, z_kil, List.set_cons_zero, List.set_cons_succ, List.take_succ_cons, List.take_zero, List.drop_succ_cons, List.drop_zero, List.reverse_cons, List.reverse_nil, List.nil_append, List.cons_append, List.getD_cons_succ, List.getD_cons_zero, List.getD_nil, List.length_cons, List.length_nil, List.map_cons, List.map_nil, List.sum_cons, List.sum_nil, Nat.reduceAdd, Nat.reduceLeDiff, Value.category, Option.toList, true_or, or_true, z_ua, ↓reduceIte, Nat.reduceEqDiff, eq_self, not_true_eq_false, not_false_eq_true, false_implies, true_implies, Classical.not_not, Nat.le_refl, Nat.zero_le, sK53 hS, sK10 hS, h]
  try dsimp only
  exact hQ _ _ ⟨rfl, rfl⟩
/-- prepare, up to the plans -/
theorem c21_115 {X : zX} (hS : SS K L G) (hC : XC G cd) (hj : X.2.1 = 21) (hd : X.2.2.1 = 1) (hN : I cd 3 = nI N) (hN12 : N ≤ 12) (hF : I 10 0 = nI F) (hF16 : F ≤ 16) (hne : ¬ I 53 6 = I 10 10) (kk : ∀ I' x2 x3, (∀ q, q ≠ 53 → q ≠ 55 → q ≠ 56 → I' q = I q) → (∀ k, k ≠ 3 → k ≠ 6 → I' 53 k = I 53 k) → I' 53 3 = nI N → I' 53 6 = I 10 10 → (∀ i, i < N → I' 55 i = x_spl (I 16) i F ∧ I' 56 i = x_spl (I 17) i F) → zV X 115 [some (.ref 53), some (.ref 10), x2, x3] [] (n, K, L, I', J, G) 0 0) : zV X 0 [some (.ref 53), some (.ref 10), none, none] [] (n, K, L, I, J, G) 0 0 := by
  have c1 := hC.1
  have d1 : ¬ cd = 53 := by omega
  refine zW_ok hj B21_0 0 _ _ _ _ _ b21_0 ?_
  simp only [B21_0, zW, z_wp1, z_ld, z_f0, z_f1, z_f2, z_f3, List.getElem?_cons_zero, List.getElem?_cons_succ, true_and, and_true, Int32.reduceOfInt, z_i10, z_i01, Int32.reduceLT, Int32.reduceLE, Int32.reduceAdd, Int32.reduceSub, z_set, z_set2, z_kil, List.set_cons_zero, List.set_cons_succ, List.take_succ_cons, List.take_zero, List.drop_succ_cons, List.drop_zero, List.reverse_cons, List.reverse_nil, List.nil_append, List.cons_append, List.getD_cons_succ, List.getD_cons_zero, List.getD_nil, List.length_cons, List.length_nil, List.map_cons, List.map_nil, List.sum_cons, List.sum_nil, Nat.reduceAdd, Nat.reduceLeDiff, Value.category, Option.toList, true_or, or_true, z_ua, ↓reduceIte, Nat.reduceEqDiff, eq_self, not_true_eq_false, not_false_eq_true, false_implies, true_implies, Classical.not_not, Nat.le_refl, Nat.zero_le, sK53 hS, sK10 hS, hne]
  try dsimp only
  refine zW_ok hj B21_12 12 _ _ _ _ _ b21_12 ?_
  simp only [B21_12, zW, z_wp1, z_ld, z_f0, z_f1, z_f2, z_f3, List.getElem?_cons_zero, List.getElem?_cons_succ, true_and, and_true, Int32.reduceOfInt, z_i10, z_i01, Int32.reduceLT, Int32.reduceLE, Int32.reduceAdd, Int32.reduceSub, z_set, z_set2, z_kil, List.set_cons_zero, List.set_cons_succ, List.take_succ_cons, List.take_zero, List.drop_succ_cons, List.drop_zero, List.reverse_cons, List.reverse_nil, List.nil_append, List.cons_append, List.getD_cons_succ, List.getD_cons_zero, List.getD_nil, List.length_cons, List.length_nil, List.map_cons, List.map_nil, List.sum_cons, List.sum_nil, Nat.reduceAdd, Nat.reduceLeDiff, Value.category, Option.toList, true_or, or_true, z_ua, ↓reduceIte, Nat.reduceEqDiff, eq_self, not_true_eq_false, not_false_eq_true, false_implies, true_implies, Classical.not_not, Nat.le_refl, Nat.zero_le, sK53 hS, sK10 hS]
  try dsimp only
  refine z_callD (c90 (I := z_u I 53 6 (I 10 10)) hS hC) (by omega) (by omega) (by omega) (Nat.le_of_ble_eq_true rfl) ?_
  try simp only [zW, z_wp1, z_ld, z_f0, z_f1, z_f2, z_f3, List.getElem?_cons_zero, List.getElem?_cons_succ, true_and, and_true, Int32.reduceOfInt, z_i10, z_i01, Int32.reduceLT, Int32.reduceLE, Int32.reduceAdd, Int32.reduceSub, z_set, z_set2, z_kil, List.set_cons_zero, List.set_cons_succ, List.take_succ_cons, List.take_zero, List.drop_succ_cons, List.drop_zero, List.reverse_cons, List.reverse_nil, List.nil_append, List.cons_append, List.getD_cons_succ, List.getD_cons_zero, List.getD_nil, List.length_cons, List.length_nil, List.map_cons, List.map_nil, List.sum_cons, List.sum_nil, Nat.reduceAdd, Nat.reduceLeDiff, Value.category, Option.toList, true_or, or_true, z_ua, ↓reduceIte, Nat.reduceEqDiff, eq_self, not_true_eq_false, not_false_eq_true, false_implies, true_implies, Classical.not_not, Nat.le_refl, Nat.zero_le, sK53 hS, d1, hN]
  try dsimp only
  refine c21_out (I := z_u (z_u I 53 6 (I 10 10)) 53 3 (nI N)) hS hj hd (by simp [z_u]; exact hF) hF16 (by simp [z_u]) hN12 (fun I2 x a1 a2 => ?_) N 0 _ none (by omega) (fun _ _ _ => rfl) (fun g hg => by omega)
  rw [z_u_ne (show (16 : Nat) ≠ 53 by decide), z_u_ne (show (16 : Nat) ≠ 53 by decide), z_u_ne (show (17 : Nat) ≠ 53 by decide), z_u_ne (show (17 : Nat) ≠ 53 by decide)] at a2
  refine kk I2 _ _ (fun q a b c => by rw [a1 q b c, z_u_ne a, z_u_ne a]) (fun k a b => by rw [a1 53 (by decide) (by decide)]; simp [z_u, a, b]) (by rw [a1 53 (by decide) (by decide)]; simp [z_u]) (by rw [a1 53 (by decide) (by decide)]; simp [z_u]) a2
theorem c21a (hS : SS K L G) (hC : XC G cd) (hg4 : G 53 4 = .ref pp) (hkp : K pp = 13) (hlp : L pp = PL) (hPL : PL < 2 ^ 31) (hN : I cd 3 = nI N) (hN12 : N ≤ 12) (hF : I 10 0 = nI F) (hF16 : F ≤ 16) (hne : ¬ I 53 6 = I 10 10) (hR : I 53 5 = nI R) (hR18 : R < 2 ^ 18) (hle : 2 ^ F ≤ PL) : z_Ctr l 1 21 [.ref 53, .ref 10] (n, K, L, I, J, G) 0 0 (fun r h' => r = none ∧ ∃ I', h' = (n, K, L, I', J, G) ∧ (∀ q, q ≠ 53 → q ≠ 55 → q ≠ 56 → I' q = I q) ∧ (∀ k, k ≠ 3 → k ≠ 5 → k ≠ 6 → I' 53 k = I 53 k) ∧ I' 53 3 = nI N ∧ I' 53 6 = I 10 10 ∧ I' 53 5 = nI (R + 1) ∧ ∀ i, i < N → I' 55 i = x_spl (I 16) i F ∧ I' 56 i = x_spl (I 17) i F) := by
  have hle2 : nI (2 ^ F) ≤ Int32.ofNat PL := nI_le hle hPL
  refine z_ctr (by decide) (by decide +kernel) (Nat.le_of_ble_eq_true rfl) (by decide +kernel) (fun X hl hj hd hm hs hsc hQ => ?_)
  show zV X 0 [some (.ref 53), some (.ref 10), none, none] [] _ 0 0
  refine c21_115 hS hC hj hd hN hN12 hF hF16 hne (fun I1 x2 x3 a1 a2 a3 a4 a5 => ?_)
  have hF1 : I1 10 0 = nI F := by rw [a1 10 (by omega) (by omega) (by omega)]; exact hF
  have hR1 : I1 53 5 = nI R := by rw [a2 5 (by omega) (by omega)]; exact hR
  refine zW_ok hj B21_115 115 _ _ _ _ _ b21_115 ?_
  simp only [B21_115, zW, z_wp1, z_ld, z_f0, z_f1, z_f2, z_f3, List.getElem?_cons_zero, List.getElem?_cons_succ, true_and, and_true, Int32.reduceOfInt, z_i10, z_i01, Int32.reduceLT, Int32.reduceLE, Int32.reduceAdd, Int32.reduceSub, z_set, z_set2, z_kil, List.set_cons_zero, List.set_cons_succ, List.take_succ_cons, List.take_zero, List.drop_succ_cons, List.drop_zero, List.reverse_cons, List.reverse_nil, List.nil_append, List.cons_append, List.getD_cons_succ, List.getD_cons_zero, List.getD_nil, List.length_cons, List.length_nil, List.map_cons, List.map_nil, List.sum_cons, List.sum_nil, Nat.reduceAdd, Nat.reduceLeDiff, Value.category, Option.toList, true_or, or_true, z_ua, ↓reduceIte, Nat.reduceEqDiff, eq_self, not_true_eq_false, not_false_eq_true, false_implies, true_implies, Classical.not_not, Nat.le_refl, Nat.zero_le, sK53 hS, sK10 hS, hg4, hkp, hlp, hF1, z_shl1 (show F < 17 by omega), hle2]
  try dsimp only
  refine zW_ok hj B21_141 141 _ _ _ _ _ b21_141 ?_
  simp only [B21_141, zW, z_wp1, z_ld, z_f0, z_f1, z_f2, z_f3, List.getElem?_cons_zero, List.getElem?_cons_succ, true_and, and_true, Int32.reduceOfInt, z_i10, z_i01, Int32.reduceLT, Int32.reduceLE, Int32.reduceAdd, Int32.reduceSub, z_set, z_set2, z_kil, List.set_cons_zero, List.set_cons_succ, List.take_succ_cons, List.take_zero, List.drop_succ_cons, List.drop_zero, List.reverse_cons, List.reverse_nil, List.nil_append, List.cons_append, List.getD_cons_succ, List.getD_cons_zero, List.getD_nil, List.length_cons, List.length_nil, List.map_cons, List.map_nil, List.sum_cons, List.sum_nil, Nat.reduceAdd, Nat.reduceLeDiff, Value.category, Option.toList, true_or, or_true, z_ua, ↓reduceIte, Nat.reduceEqDiff, eq_self, not_true_eq_false, not_false_eq_true, false_implies, true_implies, Classical.not_not, Nat.le_refl, Nat.zero_le, sK53 hS, hR1, nI_rnd hR18]
  try dsimp only
  refine hQ _ _ ⟨rfl, _, rfl, fun q a b c => by rw [z_u_ne a]; exact a1 q a b c, fun k a b c => by rw [z_u_at, if_neg b]; exact a2 k a c, by rw [z_u_at, if_neg (by decide)]; exact a3, by rw [z_u_at, if_neg (by decide)]; exact a4, by simp [z_u], fun i hi => ?_⟩
  rw [z_u_ne (by decide), z_u_ne (by decide)]
  exact a5 i hi
theorem c21b (hS : SS K L G) (hC : XC G cd) (hg4 : G 53 4 = .ref pp) (hkp : K pp = 13) (hlp : L pp = PL) (hPL : PL < 2 ^ 31) (hN : I cd 3 = nI N) (hN12 : N ≤ 12) (hF : I 10 0 = nI F) (hF16 : F ≤ 16) (hne : ¬ I 53 6 = I 10 10) (hR : I 53 5 = nI R) (hR18 : R < 2 ^ 18) (hle : ¬ 2 ^ F ≤ PL) (hn : 103 ≤ n) : z_Ctr l 1 21 [.ref 53, .ref 10] (n, K, L, I, J, G) 1 (2 ^ F) (fun r h' => r = none ∧ ∃ K' L' I' J' G', h' = (n + 1, K', L', I', J', G') ∧ zGr n K L J G K' L' J' G' 53 4 4 ∧ G' 53 4 = .ref n ∧ K' n = 13 ∧ L' n = 2 ^ F ∧ (∀ t, I' n t = 0) ∧ (∀ q, q < n → q ≠ 53 → q ≠ 55 → q ≠ 56 → I' q = I q) ∧ (∀ k, k ≠ 3 → k ≠ 5 → k ≠ 6 → I' 53 k = I 53 k) ∧ I' 53 3 = nI N ∧ I' 53 6 = I 10 10 ∧ I' 53 5 = nI (R + 1) ∧ ∀ i, i < N → I' 55 i = x_spl (I 16) i F ∧ I' 56 i = x_spl (I 17) i F) := by
  have hp := z_powF hF16
  have hle2 : ¬ nI (2 ^ F) ≤ Int32.ofNat PL := fun h => hle ((nI_leI (by omega) hPL).mp h)
  have e1 : (nI (2 ^ F)).toNatClampNeg = 2 ^ F := nI_clamp (by omega)
  have e2 : ¬ nI (2 ^ F) < 0 := nI_pos (by omega)
  have kn : ∀ {α : Type} (f : Nat → α) (x : α), z_w f n x 53 = f 53 := fun f x => z_w_ne (by omega)
  refine z_ctr (by decide) (by decide +kernel) (Nat.le_of_ble_eq_true rfl) (by decide +kernel) (fun X hl hj hd hm hs hsc hQ => ?_)
  show zV X 0 [some (.ref 53), some (.ref 10), none, none] [] _ 0 0
  refine c21_115 hS hC hj hd hN hN12 hF hF16 hne (fun I1 x2 x3 a1 a2 a3 a4 a5 => ?_)
  have hF1 : I1 10 0 = nI F := by rw [a1 10 (by omega) (by omega) (by omega)]; exact hF
  have hR1 : I1 53 5 = nI R := by rw [a2 5 (by omega) (by omega)]; exact hR
  refine zW_ok hj B21_115 115 _ _ _ _ _ b21_115 ?_
  simp only [B21_115, zW, z_wp1, z_ld, z_f0, z_f1, z_f2, z_f3, List.getElem?_cons_zero, List.getElem?_cons_succ, true_and, and_true, Int32.reduceOfInt, z_i10, z_i01, Int32.reduceLT, Int32.reduceLE, Int32.reduceAdd, Int32.reduceSub, z_set, z_set2, z_kil, List.set_cons_zero, List.set_cons_succ, List.take_succ_cons, List.take_zero, List.drop_succ_cons, List.drop_zero, List.reverse_cons, List.reverse_nil, List.nil_append, List.cons_append, List.getD_cons_succ, List.getD_cons_zero, List.getD_nil, List.length_cons, List.length_nil, List.map_cons, List.map_nil, List.sum_cons, List.sum_nil, Nat.reduceAdd, Nat.reduceLeDiff, Value.category, Option.toList, true_or, or_true, z_ua, ↓reduceIte, Nat.reduceEqDiff, eq_self, not_true_eq_false, not_false_eq_true, false_implies, true_implies, Classical.not_not, Nat.le_refl, Nat.zero_le, sK53 hS, sK10 hS, hg4, hkp, hlp, hF1, z_shl1 (show F < 17 by omega), hle2, e1, e2, kn]
  try dsimp only
  refine ⟨by omega, by omega, by omega, ?_⟩
  obtain ⟨gr, ga⟩ := zGr_1 (K := K) (L := L) (J := J) (G := G) (a := 4) (kd := 13) (len := 2 ^ F) (show 53 < n by omega)
  have hS' := gr.SS hn (Or.inr (Or.inr ⟨rfl, rfl, rfl⟩)) hS
  have k53 := sK53 hS'
  have eI : ∀ q, q < n → ∀ f : Nat → Nat → Int32, z_w f n (fun _ => 0) q = f q := fun q hq f => z_w_ne (by omega)
  have hR2 : z_w I1 n (fun _ => 0) 53 5 = nI R := by rw [eI 53 (by omega)]; exact hR1
  refine zW_ok hj B21_141 141 _ _ _ _ _ b21_141 ?_
  simp only [B21_141, zW, z_wp1, z_ld, z_f0, z_f1, z_f2, z_f3, List.getElem?_cons_zero, List.getElem?_cons_succ, true_and, and_true, Int32.reduceOfInt, z_i10, z_i01, Int32.reduceLT, Int32.reduceLE, Int32.reduceAdd, Int32.reduceSub, z_set, z_set2, z_kil, List.set_cons_zero, List.set_cons_succ, List.take_succ_cons, List.take_zero, List.drop_succ_cons, List.drop_zero, List.reverse_cons, List.reverse_nil, List.nil_append, List.cons_append, List.getD_cons_succ, List.getD_cons_zero, List.getD_nil, List.length_cons, List.length_nil, List.map_cons, List.map_nil, List.sum_cons, List.sum_nil, Nat.reduceAdd, Nat.reduceLeDiff, Value.category, Option.toList, true_or, or_true, z_ua, ↓reduceIte, Nat.reduceEqDiff, eq_self, not_true_eq_false, not_false_eq_true, false_implies, true_implies, Classical.not_not, Nat.le_refl, Nat.zero_le, k53, hR2, hR1, kn, nI_rnd hR18, sK53 hS]
  try dsimp only
  have g1 : ∀ q, q < n → q ≠ 53 → z_u (z_w I1 n (fun _ => 0)) 53 5 (nI (R + 1)) q = I1 q := fun q a b => by rw [z_u_ne b, eI q a]
  have g2 : ∀ k, k ≠ 5 → z_u (z_w I1 n (fun _ => 0)) 53 5 (nI (R + 1)) 53 k = I1 53 k := fun k a => by rw [z_u_at, if_neg a, eI 53 (by omega)]
  refine hQ _ _ ⟨rfl, _, _, z_u (z_w I1 n (fun _ => 0)) 53 5 (nI (R + 1)), _, _, rfl, gr, ga, z_w_at K n 13, z_w_at L n (2 ^ F), fun t => by rw [z_u_ne (by omega), z_w_at], fun q a b c d => by rw [g1 q a b]; exact a1 q b c d, fun k a b c => by rw [g2 k b]; exact a2 k a c, by rw [g2 3 (by decide)]; exact a3, by rw [g2 6 (by decide)]; exact a4, by simp [z_u], fun i hi => ?_⟩
  rw [g1 55 (by omega) (by decide), g1 56 (by omega) (by decide)]
  exact a5 i hi
end KT5
