/-! Crosses: crosses of the model -/
section CRS4
variable {l : Launch} {n : Nat} {K L : Nat → Nat} {I : Nat → Nat → Int32} {J : Nat → Nat → Int64} {G : Nat → Nat → Value} {c F N s cm : Nat} {fs w : Nat → Nat} {tr : Nat → (Int32 → Int32) → Int32}
theorem c234_row {X : zX} (hS : SS K L G) (hj : X.2.1 = 234) {set : Int32} (hF : I 71 1 = nI F) (hF16 : F ≤ 16) {x1 x3 : Option Value} {y4 : Int32} (kk : ∀ I' x5, (∀ q, q ≠ 95 → q ≠ 71 → I' q = I q) → (∀ k, k ≠ 51 → I' 71 k = I 71 k) → I' 71 51 = nI (s_rk (zb set) F) → (∀ f, f < F → zb set f = true → I' 95 (s_rk (zb set) f) = nI f) → zV X 94 [some (.ref 71), x1, some (.int set), x3, some (.int y4), x5, none, none] [] (n, K, L, I', J, G) 0 0) : ∀ (k f : Nat) (I' : Nat → Nat → Int32), f + k = F → (∀ q, q ≠ 95 → q ≠ 71 → I' q = I q) → (∀ k, k ≠ 51 → I' 71 k = I 71 k) → I' 71 51 = nI (s_rk (zb set) f) → (∀ g, g < f → zb set g = true → I' 95 (s_rk (zb set) g) = nI g) → zV X 46 [some (.ref 71), x1, some (.int set), x3, some (.int y4), some (.int (nI f)), none, none] [] (n, K, L, I', J, G) 0 0
  | 0, f, I', hk, h1, h2, h3, h4 => by
    have e : f = F := by omega
    subst e
    have g1 : I' 71 1 = nI f := by rw [h2 _ (by decide)]; exact hF
    refine zW_ok hj B234_46 46 _ _ _ _ _ b234_46 ?_
    simp only [B234_46, zW, z_wp1, z_ld, z_f0, z_f1, z_f2, z_f3, List.getElem?_cons_zero, List.getElem?_cons_succ, true_and, and_true, Int32.reduceOfInt, z_i10, z_i01, Int32.reduceLT, Int32.reduceLE, Int32.reduceAdd, Int32.reduceSub, z_set, z_set2, z_kil, List.set_cons_zero, List.set_cons_succ, List.take_succ_cons, List.take_zero, List.drop_succ_cons, List.drop_zero, List.reverse_cons, List.reverse_nil, List.nil_append, List.cons_append, List.getD_cons_succ, List.getD_cons_zero, List.getD_nil, List.length_cons, List.length_nil, List.map_cons, List.map_nil, List.sum_cons, List.sum_nil, Nat.reduceAdd, Nat.reduceLeDiff, Value.category, Option.toList, true_or, or_true, z_ua, ↓reduceIte, Nat.reduceEqDiff, eq_self, not_true_eq_false, not_false_eq_true, false_implies, true_implies, Classical.not_not, Nat.le_refl, Nat.zero_le, sK71 hS, g1]
    try dsimp only
    exact ⟨fun _ => kk I' _ h1 h2 h3 h4, fun q => absurd (nI_le (Nat.le_refl _) (by omega)) q⟩
  | k + 1, f, I', hk, h1, h2, h3, h4 => by
    have g1 : I' 71 1 = nI F := by rw [h2 _ (by decide)]; exact hF
    have ih := c234_row hS hj hF hF16 kk k (f + 1)
    refine zW_ok hj B234_46 46 _ _ _ _ _ b234_46 ?_
    simp only [B234_46, zW, z_wp1, z_ld, z_f0, z_f1, z_f2, z_f3, List.getElem?_cons_zero, List.getElem?_cons_succ, true_and, and_true, Int32.reduceOfInt, z_i10, z_i01, Int32.reduceLT, Int32.reduceLE, Int32.reduceAdd, Int32.reduceSub, z_set, z_set2, z_kil, List.set_cons_zero, List.set_cons_succ, List.take_succ_cons, List.take_zero, List.drop_succ_cons, List.drop_zero, List.reverse_cons, List.reverse_nil, List.nil_append, List.cons_append, List.getD_cons_succ, List.getD_cons_zero, List.getD_nil, List.length_cons, List.length_nil, List.map_cons, List.map_nil, List.sum_cons, List.sum_nil, Nat.reduceAdd, Nat.reduceLeDiff, Value.category, Option.toList, true_or, or_true, z_ua, ↓reduceIte, Nat.reduceEqDiff, eq_self, not_true_eq_false, not_false_eq_true, false_implies, true_implies, Classical.not_not, Nat.le_refl, Nat.zero_le, sK71 hS, g1]
    try dsimp only
    refine ⟨fun q => absurd q (nI_ge (by omega) (by omega)), fun _ => ⟨fun h => ?_, fun h => ?_⟩⟩
    · have e : zb set f = true := by
        cases z : zb set f with
        | true => rfl
        | false => exact absurd ((zb_get0 (by omega)).mpr z) h
      have er : s_rk (zb set) (f + 1) = s_rk (zb set) f + 1 := by rw [s_rk, e]; rfl
      have hn := s_rk_n (zb set) f
      have e1 : (nI (s_rk (zb set) f)).toNatClampNeg = s_rk (zb set) f := nI_clamp (by omega)
      have v1 : vp_in (nI (s_rk (zb set) f)) 16 := vp_in_nI (by omega) (by omega)
      refine zW_ok hj B234_67 67 _ _ _ _ _ b234_67 ?_
      simp only [B234_67, zW, z_wp1, z_ld, z_f0, z_f1, z_f2, z_f3, List.getElem?_cons_zero, List.getElem?_cons_succ, true_and, and_true, Int32.reduceOfInt, z_i10, z_i01, Int32.reduceLT, Int32.reduceLE, Int32.reduceAdd, Int32.reduceSub, z_set, z_set2, z_kil, List.set_cons_zero, List.set_cons_succ, List.take_succ_cons, List.take_zero, List.drop_succ_cons, List.drop_zero, List.reverse_cons, List.reverse_nil, List.nil_append, List.cons_append, List.getD_cons_succ, List.getD_cons_zero, List.getD_nil, List.length_cons, List.length_nil, List.map_cons, List.map_nil, List.sum_cons, List.sum_nil, Nat.reduceAdd, Nat.reduceLeDiff, Value.category, Option.toList, true_or, or_true, z_ua, ↓reduceIte, Nat.reduceEqDiff, eq_self, not_true_eq_false, not_false_eq_true, false_implies, true_implies, Classical.not_not, Nat.le_refl, Nat.zero_le, sK71 hS, sG71_49 hS, sK95 hS, sL95 hS, h3, e1, v1, nI_1]
      try dsimp only
      refine zW_ok hj B234_88 88 _ _ _ _ _ b234_88 ?_
      simp only [B234_88, zW, z_wp1, z_ld, z_f0, z_f1, z_f2, z_f3, List.getElem?_cons_zero, List.getElem?_cons_succ, true_and, and_true, Int32.reduceOfInt, z_i10, z_i01, Int32.reduceLT, Int32.reduceLE, Int32.reduceAdd, Int32.reduceSub, z_set, z_set2, z_kil, List.set_cons_zero, List.set_cons_succ, List.take_succ_cons, List.take_zero, List.drop_succ_cons, List.drop_zero, List.reverse_cons, List.reverse_nil, List.nil_append, List.cons_append, List.getD_cons_succ, List.getD_cons_zero, List.getD_nil, List.length_cons, List.length_nil, List.map_cons, List.map_nil, List.sum_cons, List.sum_nil, Nat.reduceAdd, Nat.reduceLeDiff, Value.category, Option.toList, true_or, or_true, z_ua, ↓reduceIte, Nat.reduceEqDiff, eq_self, not_true_eq_false, not_false_eq_true, false_implies, true_implies, Classical.not_not, Nat.le_refl, Nat.zero_le, nI_1]
      try dsimp only
      refine ih _ (by omega) (fun q a b => by rw [z_u_ne b, z_u_ne a]; exact h1 q a b) (fun k hk => by rw [z_u_at, if_neg hk, z_u_ne (by decide)]; exact h2 k hk) (by rw [z_u_at, if_pos rfl, er]) (fun g hg1 hg2 => ?_)
      rw [z_u_ne (by decide), z_u_at]
      by_cases z : g = f
      · rw [z, if_pos rfl]
      · have := s_rk_lt (show g < f by omega) hg2
        rw [if_neg (by omega)]
        exact h4 g (by omega) hg2
    · have e := (zb_get0 (show f < 32 by omega)).mp h
      have er : s_rk (zb set) (f + 1) = s_rk (zb set) f := by rw [s_rk, e]; rfl
      refine zW_ok hj B234_88 88 _ _ _ _ _ b234_88 ?_
      simp only [B234_88, zW, z_wp1, z_ld, z_f0, z_f1, z_f2, z_f3, List.getElem?_cons_zero, List.getElem?_cons_succ, true_and, and_true, Int32.reduceOfInt, z_i10, z_i01, Int32.reduceLT, Int32.reduceLE, Int32.reduceAdd, Int32.reduceSub, z_set, z_set2, z_kil, List.set_cons_zero, List.set_cons_succ, List.take_succ_cons, List.take_zero, List.drop_succ_cons, List.drop_zero, List.reverse_cons, List.reverse_nil, List.nil_append, List.cons_append, List.getD_cons_succ, List.getD_cons_zero, List.getD_nil, List.length_cons, List.length_nil, List.map_cons, List.map_nil, List.sum_cons, List.sum_nil, Nat.reduceAdd, Nat.reduceLeDiff, Value.category, Option.toList, true_or, or_true, z_ua, ↓reduceIte, Nat.reduceEqDiff, eq_self, not_true_eq_false, not_false_eq_true, false_implies, true_implies, Classical.not_not, Nat.le_refl, Nat.zero_le, nI_1]
      try dsimp only
      refine ih I' (by omega) h1 h2 (by rw [er]; exact h3) (fun g hg1 hg2 => ?_)
      refine h4 g ?_ hg2
      rcases Nat.lt_or_ge g f with z | z
      · exact z
      · rw [show g = f by omega, e] at hg2; cases hg2
theorem c234_cp {X : zX} (hS : SS K L G) (hj : X.2.1 = 234) (hc : I 71 51 = nI cm) (hcm : cm ≤ 16) {x1 x2 x3 x4 : Option Value} {y5 y6 : Int32} (kk : ∀ I' x7, (∀ q, q ≠ 96 → I' q = I q) → (∀ x, x < cm → I' 96 x = I 95 x) → zV X 168 [some (.ref 71), x1, x2, x3, x4, some (.int y5), some (.int y6), x7] [] (n, K, L, I', J, G) 0 0) : ∀ (k x : Nat) (I' : Nat → Nat → Int32), x + k = cm → (∀ q, q ≠ 96 → I' q = I q) → (∀ y, y < x → I' 96 y = I 95 y) → zV X 139 [some (.ref 71), x1, x2, x3, x4, some (.int y5), some (.int y6), some (.int (nI x))] [] (n, K, L, I', J, G) 0 0
  | 0, x, I', hk, h1, h2 => by
    have e : x = cm := by omega
    subst e
    have g1 : I' 71 51 = nI x := by rw [h1 71 (by decide)]; exact hc
    refine zW_ok hj B234_139 139 _ _ _ _ _ b234_139 ?_
    simp only [B234_139, zW, z_wp1, z_ld, z_f0, z_f1, z_f2, z_f3, List.getElem?_cons_zero, List.getElem?_cons_succ, true_and, and_true, Int32.reduceOfInt, z_i10, z_i01, Int32.reduceLT, Int32.reduceLE, Int32.reduceAdd, Int32.reduceSub, z_set, z_set2, z_kil, List.set_cons_zero, List.set_cons_succ, List.take_succ_cons, List.take_zero, List.drop_succ_cons, List.drop_zero, List.reverse_cons, List.reverse_nil, List.nil_append, List.cons_append, List.getD_cons_succ, List.getD_cons_zero, List.getD_nil, List.length_cons, List.length_nil, List.map_cons, List.map_nil, List.sum_cons, List.sum_nil, Nat.reduceAdd, Nat.reduceLeDiff, Value.category, Option.toList, true_or, or_true, z_ua, ↓reduceIte, Nat.reduceEqDiff, eq_self, not_true_eq_false, not_false_eq_true, false_implies, true_implies, Classical.not_not, Nat.le_refl, Nat.zero_le, sK71 hS, g1]
    try dsimp only
    exact ⟨fun _ => kk I' _ h1 h2, fun q => absurd (nI_le (Nat.le_refl _) (by omega)) q⟩
  | k + 1, x, I', hk, h1, h2 => by
    have g1 : I' 71 51 = nI cm := by rw [h1 71 (by decide)]; exact hc
    have g2 : I' 95 = I 95 := h1 95 (by decide)
    have e1 : (nI x).toNatClampNeg = x := nI_clamp (by omega)
    have v1 : vp_in (nI x) 16 := vp_in_nI (by omega) (by omega)
    refine zW_ok hj B234_139 139 _ _ _ _ _ b234_139 ?_
    simp only [B234_139, zW, z_wp1, z_ld, z_f0, z_f1, z_f2, z_f3, List.getElem?_cons_zero, List.getElem?_cons_succ, true_and, and_true, Int32.reduceOfInt, z_i10, z_i01, Int32.reduceLT, Int32.reduceLE, Int32.reduceAdd, Int32.reduceSub, z_set, z_set2, z_kil, List.set_cons_zero, List.set_cons_succ, List.take_succ_cons, List.take_zero, List.drop_succ_cons, List.drop_zero, List.reverse_cons, List.reverse_nil, List.nil_append, List.cons_append, List.getD_cons_succ, List.getD_cons_zero, List.getD_nil, List.length_cons, List.length_nil, List.map_cons, List.map_nil, List.sum_cons, List.sum_nil, Nat.reduceAdd, Nat.reduceLeDiff, Value.category, Option.toList, true_or, or_true, z_ua, ↓reduceIte, Nat.reduceEqDiff, eq_self, not_true_eq_false, not_false_eq_true, false_implies, true_implies, Classical.not_not, Nat.le_refl, Nat.zero_le, sK71 hS, g1, sG71_49 hS, sK95 hS, sL95 hS, sG71_50 hS, sK96 hS, sL96 hS, e1, v1, g2, nI_1]
    try dsimp only
    refine ⟨fun q => absurd q (nI_ge (by omega) (by omega)), fun _ => ?_⟩
    refine c234_cp hS hj hc hcm kk k (x + 1) _ (by omega) (fun q hq => by rw [z_u_ne hq]; exact h1 q hq) (fun y hy => ?_)
    rw [z_u_at]
    by_cases z : y = x
    · rw [if_pos z, z]
    · rw [if_neg z]; exact h2 y (by omega)
/-- the best of the words before the next -/
def c_bs (C : (Nat → Nat) → Nat) (n lim : Nat) (b : Nat → Nat) : Prop := c_P n b ∧ (∀ v, c_P n v → c_v v n < lim → C b ≤ C v) ∧ ∀ v, c_P n v → c_v v n < c_v b n → C b < C v
theorem c_bs_1 {C : (Nat → Nat) → Nat} {n : Nat} {b w : Nat → Nat} (hn : n ≤ 16) (hC : ∀ v v', (∀ i, i < n → v i = v' i) → C v = C v') (hb : c_bs C n (c_v w n) b) (hw : c_P n w) : (C w < C b → c_bs C n (c_v w n + 1) w) ∧ (¬ C w < C b → c_bs C n (c_v w n + 1) b) := by
  refine ⟨fun h => ⟨hw, fun v hv hl => ?_, fun v hv hl => ?_⟩, fun h => ⟨hb.1, fun v hv hl => ?_, hb.2.2⟩⟩
  · by_cases e : c_v v n = c_v w n
    · rw [hC v w (c_v_eq (hv.dg hw hn) e)]; exact Nat.le_refl _
    · have := hb.2.1 v hv (by omega)
      omega
  · have := hb.2.1 v hv hl
    omega
  · by_cases e : c_v v n = c_v w n
    · rw [hC v w (c_v_eq (hv.dg hw hn) e)]; omega
    · exact hb.2.1 v hv (by omega)
theorem c_C_ext {h : Nat → Nat → Bool} {n m : Nat} (v v' : Nat → Nat) (e : ∀ i, i < n → v i = v' i) : c_C h n m v = c_C h n m v' := c_C_congr (fun i x _ hx => by rw [e x hx])
/-- what crosses answers -/
def mCa (C : (Nat → Nat) → Nat) (fs : Nat → Nat) (cm : Nat) (b : Nat → Nat) (what : Int32) : Int32 := if what = 0 then nI (C b) else if 10 ≤ what ∧ what ≤ nI (9 + cm) then nI (fs (b (what - 10).toNatClampNeg)) else -1
theorem c234_end {X : zX} (hS : SS K L G) (hj : X.2.1 = 234) (hd : X.2.2.1 = 4) (hm : X.2.2.2.1 = 0) (hsl : X.2.2.2.2.1 = 0) (hc : I 71 51 = nI cm) (hcm : cm ≤ 16) {C : (Nat → Nat) → Nat} {b : Nat → Nat} (hb1 : I 71 52 = nI (C b)) (hb2 : ∀ x, x < cm → I 96 x = nI (fs (b x))) {what : Int32} {x1 x2 x3 x5 x6 x7 : Option Value} (hQ : X.2.2.2.2.2.2 (some (.int (mCa C fs cm b what))) (n, K, L, I, J, G)) : zV X 177 [some (.ref 71), x1, x2, x3, some (.int what), x5, x6, x7] [] (n, K, L, I, J, G) 0 0 := by
  refine zW_ok hj B234_177 177 _ _ _ _ _ b234_177 ?_
  simp only [B234_177, zW, z_wp1, z_ld, z_f0, z_f1, z_f2, z_f3, List.getElem?_cons_zero, List.getElem?_cons_succ, true_and, and_true, Int32.reduceOfInt, z_i10, z_i01, Int32.reduceLT, Int32.reduceLE, Int32.reduceAdd, Int32.reduceSub, z_set, z_set2, z_kil, List.set_cons_zero, List.set_cons_succ, List.take_succ_cons, List.take_zero, List.drop_succ_cons, List.drop_zero, List.reverse_cons, List.reverse_nil, List.nil_append, List.cons_append, List.getD_cons_succ, List.getD_cons_zero, List.getD_nil, List.length_cons, List.length_nil, List.map_cons, List.map_nil, List.sum_cons, List.sum_nil, Nat.reduceAdd, Nat.reduceLeDiff, Value.category, Option.toList, true_or, or_true, z_ua, ↓reduceIte, Nat.reduceEqDiff, eq_self, not_true_eq_false, not_false_eq_true, false_implies, true_implies, Classical.not_not, Nat.le_refl, Nat.zero_le, sK71 hS, hb1]
  try dsimp only
  refine ⟨fun h => ?_, fun h => ?_⟩
  · have e9 : (9 : Int32) + nI cm = nI (9 + cm) := by rw [show (9 : Int32) = nI 9 from rfl, nI_add]
    refine zW_ok hj B234_187 187 _ _ _ _ _ b234_187 ?_
    simp only [B234_187, zW, z_wp1, z_ld, z_f0, z_f1, z_f2, z_f3, List.getElem?_cons_zero, List.getElem?_cons_succ, true_and, and_true, Int32.reduceOfInt, z_i10, z_i01, Int32.reduceLT, Int32.reduceLE, Int32.reduceAdd, Int32.reduceSub, z_set, z_set2, z_kil, List.set_cons_zero, List.set_cons_succ, List.take_succ_cons, List.take_zero, List.drop_succ_cons, List.drop_zero, List.reverse_cons, List.reverse_nil, List.nil_append, List.cons_append, List.getD_cons_succ, List.getD_cons_zero, List.getD_nil, List.length_cons, List.length_nil, List.map_cons, List.map_nil, List.sum_cons, List.sum_nil, Nat.reduceAdd, Nat.reduceLeDiff, Value.category, Option.toList, true_or, or_true, z_ua, ↓reduceIte, Nat.reduceEqDiff, eq_self, not_true_eq_false, not_false_eq_true, false_implies, true_implies, Classical.not_not, Nat.le_refl, Nat.zero_le, sK71 hS, hc, e9]
    try dsimp only
    by_cases hi : 10 ≤ what ∧ what ≤ nI (9 + cm)
    · refine z_callD (c160 (I := I) (J := J) hS what 10 (nI (9 + cm))) (by omega) (by omega) (by omega) (Nat.le_of_ble_eq_true rfl) ?_
      try simp only [zW, z_wp1, z_ld, z_f0, z_f1, z_f2, z_f3, List.getElem?_cons_zero, List.getElem?_cons_succ, true_and, and_true, Int32.reduceOfInt, z_i10, z_i01, Int32.reduceLT, Int32.reduceLE, Int32.reduceAdd, Int32.reduceSub, z_set, z_set2, z_kil, List.set_cons_zero, List.set_cons_succ, List.take_succ_cons, List.take_zero, List.drop_succ_cons, List.drop_zero, List.reverse_cons, List.reverse_nil, List.nil_append, List.cons_append, List.getD_cons_succ, List.getD_cons_zero, List.getD_nil, List.length_cons, List.length_nil, List.map_cons, List.map_nil, List.sum_cons, List.sum_nil, Nat.reduceAdd, Nat.reduceLeDiff, Value.category, Option.toList, true_or, or_true, z_ua, ↓reduceIte, Nat.reduceEqDiff, eq_self, not_true_eq_false, not_false_eq_true, false_implies, true_implies, Classical.not_not, Nat.le_refl, Nat.zero_le, z_b1 hi, sK71 hS, sG71_50 hS, sK96 hS, sL96 hS]
      try dsimp only
      have h0 : what - 10 = nI (what - 10).toNatClampNeg ∧ (what - 10).toNatClampNeg < cm := by
        obtain ⟨k, hk, ek⟩ := nI_of (x := what) (Int32.not_lt.mpr (Int32.le_trans (show (0 : Int32) ≤ 10 by decide) hi.1))
        rw [ek] at hi ⊢
        have h1 := (nI_leI (a := 10) (b := k) (by omega) (by omega)).mp hi.1
        have h2 := (nI_leI (a := k) (b := 9 + cm) (by omega) (by omega)).mp hi.2
        have e : nI k - 10 = nI (k - 10) := nI_sub' (b := 10) (by omega)
        rw [e, nI_clamp (by omega)]
        exact ⟨rfl, by omega⟩
      have v1 : vp_in (what - 10) 16 := by
        rw [h0.1]
        exact vp_in_nI (by omega) (by omega)
      simp only [zW, z_wp1, z_ld, z_f0, z_f1, z_f2, z_f3, List.getElem?_cons_zero, List.getElem?_cons_succ, true_and, and_true, Int32.reduceOfInt, z_i10, z_i01, Int32.reduceLT, Int32.reduceLE, Int32.reduceAdd, Int32.reduceSub, z_set, z_set2, z_kil, List.set_cons_zero, List.set_cons_succ, List.take_succ_cons, List.take_zero, List.drop_succ_cons, List.drop_zero, List.reverse_cons, List.reverse_nil, List.nil_append, List.cons_append, List.getD_cons_succ, List.getD_cons_zero, List.getD_nil, List.length_cons, List.length_nil, List.map_cons, List.map_nil, List.sum_cons, List.sum_nil, Nat.reduceAdd, Nat.reduceLeDiff, Value.category, Option.toList, true_or, or_true, z_ua, ↓reduceIte, Nat.reduceEqDiff, eq_self, not_true_eq_false, not_false_eq_true, false_implies, true_implies, Classical.not_not, Nat.le_refl, Nat.zero_le, v1, sK71 hS, sG71_50 hS, sK96 hS, sL96 hS]
      try dsimp only
      refine zW_ok hj B234_219 219 _ _ _ _ _ b234_219 ?_
      simp only [B234_219, zW, z_wp1, z_ld, z_f0, z_f1, z_f2, z_f3, List.getElem?_cons_zero, List.getElem?_cons_succ, true_and, and_true, Int32.reduceOfInt, z_i10, z_i01, Int32.reduceLT, Int32.reduceLE, Int32.reduceAdd, Int32.reduceSub, z_set, z_set2, z_kil, List.set_cons_zero, List.set_cons_succ, List.take_succ_cons, List.take_zero, List.drop_succ_cons, List.drop_zero, List.reverse_cons, List.reverse_nil, List.nil_append, List.cons_append, List.getD_cons_succ, List.getD_cons_zero, List.getD_nil, List.length_cons, List.length_nil, List.map_cons, List.map_nil, List.sum_cons, List.sum_nil, Nat.reduceAdd, Nat.reduceLeDiff, Value.category, Option.toList, true_or, or_true, z_ua, ↓reduceIte, Nat.reduceEqDiff, eq_self, not_true_eq_false, not_false_eq_true, false_implies, true_implies, Classical.not_not, Nat.le_refl, Nat.zero_le]
      try dsimp only
      rw [mCa, if_neg h, if_pos hi, ← hb2 _ h0.2] at hQ
      exact hQ
    · refine z_callD (c160 (I := I) (J := J) hS what 10 (nI (9 + cm))) (by omega) (by omega) (by omega) (Nat.le_of_ble_eq_true rfl) ?_
      try simp only [zW, z_wp1, z_ld, z_f0, z_f1, z_f2, z_f3, List.getElem?_cons_zero, List.getElem?_cons_succ, true_and, and_true, Int32.reduceOfInt, z_i10, z_i01, Int32.reduceLT, Int32.reduceLE, Int32.reduceAdd, Int32.reduceSub, z_set, z_set2, z_kil, List.set_cons_zero, List.set_cons_succ, List.take_succ_cons, List.take_zero, List.drop_succ_cons, List.drop_zero, List.reverse_cons, List.reverse_nil, List.nil_append, List.cons_append, List.getD_cons_succ, List.getD_cons_zero, List.getD_nil, List.length_cons, List.length_nil, List.map_cons, List.map_nil, List.sum_cons, List.sum_nil, Nat.reduceAdd, Nat.reduceLeDiff, Value.category, Option.toList, true_or, or_true, z_ua, ↓reduceIte, Nat.reduceEqDiff, eq_self, not_true_eq_false, not_false_eq_true, false_implies, true_implies, Classical.not_not, Nat.le_refl, Nat.zero_le, z_b0 hi]
      try dsimp only
      refine zW_ok hj B234_218 218 _ _ _ _ _ b234_218 ?_
      simp only [B234_218, zW, z_wp1, z_ld, z_f0, z_f1, z_f2, z_f3, List.getElem?_cons_zero, List.getElem?_cons_succ, true_and, and_true, Int32.reduceOfInt, z_i10, z_i01, Int32.reduceLT, Int32.reduceLE, Int32.reduceAdd, Int32.reduceSub, z_set, z_set2, z_kil, List.set_cons_zero, List.set_cons_succ, List.take_succ_cons, List.take_zero, List.drop_succ_cons, List.drop_zero, List.reverse_cons, List.reverse_nil, List.nil_append, List.cons_append, List.getD_cons_succ, List.getD_cons_zero, List.getD_nil, List.length_cons, List.length_nil, List.map_cons, List.map_nil, List.sum_cons, List.sum_nil, Nat.reduceAdd, Nat.reduceLeDiff, Value.category, Option.toList, true_or, or_true, z_ua, ↓reduceIte, Nat.reduceEqDiff, eq_self, not_true_eq_false, not_false_eq_true, false_implies, true_implies, Classical.not_not, Nat.le_refl, Nat.zero_le]
      try dsimp only
      refine zW_ok hj B234_219 219 _ _ _ _ _ b234_219 ?_
      simp only [B234_219, zW, z_wp1, z_ld, z_f0, z_f1, z_f2, z_f3, List.getElem?_cons_zero, List.getElem?_cons_succ, true_and, and_true, Int32.reduceOfInt, z_i10, z_i01, Int32.reduceLT, Int32.reduceLE, Int32.reduceAdd, Int32.reduceSub, z_set, z_set2, z_kil, List.set_cons_zero, List.set_cons_succ, List.take_succ_cons, List.take_zero, List.drop_succ_cons, List.drop_zero, List.reverse_cons, List.reverse_nil, List.nil_append, List.cons_append, List.getD_cons_succ, List.getD_cons_zero, List.getD_nil, List.length_cons, List.length_nil, List.map_cons, List.map_nil, List.sum_cons, List.sum_nil, Nat.reduceAdd, Nat.reduceLeDiff, Value.category, Option.toList, true_or, or_true, z_ua, ↓reduceIte, Nat.reduceEqDiff, eq_self, not_true_eq_false, not_false_eq_true, false_implies, true_implies, Classical.not_not, Nat.le_refl, Nat.zero_le]
      try dsimp only
      rw [mCa, if_neg h, if_neg hi] at hQ
      exact hQ
  · rw [mCa, if_pos h] at hQ
    exact hQ
theorem c234_loop {X : zX} (hS : SS K L G) (hj : X.2.1 = 234) (hd : X.2.2.1 = 4) (hm : X.2.2.2.1 = 0) (hsl : X.2.2.2.2.1 = 0) (hN : I 71 17 = nI N) (hN12 : N ≤ 12) (hc : I 71 51 = nI cm) (hcm : cm ≤ 8) (hF : c_F cm fs) {what : Int32} {x1 x2 x3 : Option Value} (hQ : ∀ r h', (∃ b, c_B (c_C (mH I fs) cm N) cm b ∧ r = some (.int (mCa (c_C (mH I fs) cm N) fs cm b what)) ∧ ∃ I', h' = (n, K, L, I', J, G) ∧ (∀ q, q ≠ 95 → q ≠ 96 → q ≠ 71 → I' q = I q) ∧ ∀ k, k ≠ 52 → I' 71 k = I 71 k) → X.2.2.2.2.2.2 r h') : ∀ (k : Nat) (w : Nat → Nat) (I' : Nat → Nat → Int32) (x6 x7 : Option Value), 16 ^ cm ≤ c_v w cm + k → c_P cm w → (∀ q, q ≠ 95 → q ≠ 96 → q ≠ 71 → I' q = I q) → (∀ k, k ≠ 52 → I' 71 k = I 71 k) → (∀ x, x < cm → I' 95 x = nI (fs (w x))) → ((I' 71 52 = -1 ∧ ∀ v, c_P cm v → c_v w cm ≤ c_v v cm) ∨ ∃ b, c_bs (c_C (mH I fs) cm N) cm (c_v w cm) b ∧ I' 71 52 = nI (c_C (mH I fs) cm N b) ∧ ∀ x, x < cm → I' 96 x = nI (fs (b x))) →
      zV X 102 [some (.ref 71), x1, x2, x3, some (.int what), some (.int 1), x6, x7] [] (n, K, L, I', J, G) 0 0 := by
  have bC : ∀ v, c_C (mH I fs) cm N v < 2 ^ 20 := fun v => by
    unfold c_C
    have : ∀ m, m ≤ 12 → s_sum (fun i => s_rk (fun x => mH I fs i (v x)) cm - c_l (fun x => mH I fs i (v x)) cm) m ≤ m * 16 := fun m => by
      induction m with
      | zero => intro _; exact Nat.le_refl _
      | succ m ih =>
        intro h
        have := s_rk_n (fun x => mH I fs m (v x)) cm
        have := ih (by omega)
        rw [s_sum]
        omega
    have := this N hN12
    omega
  intro k
  induction k with
  | zero =>
    intro w I' x6 x7 hk hP
    have := c_v_bd (w := w) (n := cm) (fun j hj => by have := hP.1 j hj; omega)
    omega
  | succ k ih =>
    intro w I' x6 x7 hk hP h1 h2 h3 hb
    have g94 : I' 94 = I 94 := h1 94 (by decide) (by decide) (by decide)
    have eH : mH I' fs = mH I fs := by unfold mH; rw [g94]
    have gm : I' 71 17 = nI N := by rw [h2 _ (by decide)]; exact hN
    have gc : I' 71 51 = nI cm := by rw [h2 _ (by decide)]; exact hc
    -- behind the comparing
    have nxt : ∀ (I2 : Nat → Nat → Int32) (b : Nat → Nat) (y6 : Int32) (x7 : Option Value), (∀ q, q ≠ 95 → q ≠ 96 → q ≠ 71 → I2 q = I q) → (∀ k, k ≠ 52 → I2 71 k = I 71 k) → (∀ x, x < cm → I2 95 x = nI (fs (w x))) → c_bs (c_C (mH I fs) cm N) cm (c_v w cm + 1) b → I2 71 52 = nI (c_C (mH I fs) cm N b) → (∀ x, x < cm → I2 96 x = nI (fs (b x))) → zV X 168 [some (.ref 71), x1, x2, x3, some (.int what), some (.int 1), some (.int y6), x7] [] (n, K, L, I2, J, G) 0 0 := by
      intro I2 b y6 x7 a1 a2 a3 a4 a5 a6
      have gc2 : I2 71 51 = nI cm := by rw [a2 _ (by decide)]; exact hc
      refine zW_ok hj B234_168 168 _ _ _ _ _ b234_168 ?_
      simp only [B234_168, zW, z_wp1, z_ld, z_f0, z_f1, z_f2, z_f3, List.getElem?_cons_zero, List.getElem?_cons_succ, true_and, and_true, Int32.reduceOfInt, z_i10, z_i01, Int32.reduceLT, Int32.reduceLE, Int32.reduceAdd, Int32.reduceSub, z_set, z_set2, z_kil, List.set_cons_zero, List.set_cons_succ, List.take_succ_cons, List.take_zero, List.drop_succ_cons, List.drop_zero, List.reverse_cons, List.reverse_nil, List.nil_append, List.cons_append, List.getD_cons_succ, List.getD_cons_zero, List.getD_nil, List.length_cons, List.length_nil, List.map_cons, List.map_nil, List.sum_cons, List.sum_nil, Nat.reduceAdd, Nat.reduceLeDiff, Value.category, Option.toList, true_or, or_true, z_ua, ↓reduceIte, Nat.reduceEqDiff, eq_self, not_true_eq_false, not_false_eq_true, false_implies, true_implies, Classical.not_not, Nat.le_refl, Nat.zero_le, sK71 hS]
      try dsimp only
      refine z_callQ (c232 (I := I2) (J := J) hS gc2 (by omega) hF hP a3) (by omega) (by omega) (by omega) (Nat.le_of_ble_eq_true rfl) ?_
      rintro r h' (⟨rfl, rfl, hlast⟩ | ⟨rfl, I3, k', o', rfl, ht, o3, r3⟩)
      · simp only [zW, z_wp1, z_ld, z_f0, z_f1, z_f2, z_f3, List.getElem?_cons_zero, List.getElem?_cons_succ, true_and, and_true, Int32.reduceOfInt, z_i10, z_i01, Int32.reduceLT, Int32.reduceLE, Int32.reduceAdd, Int32.reduceSub, z_set, z_set2, z_kil, List.set_cons_zero, List.set_cons_succ, List.take_succ_cons, List.take_zero, List.drop_succ_cons, List.drop_zero, List.reverse_cons, List.reverse_nil, List.nil_append, List.cons_append, List.getD_cons_succ, List.getD_cons_zero, List.getD_nil, List.length_cons, List.length_nil, List.map_cons, List.map_nil, List.sum_cons, List.sum_nil, Nat.reduceAdd, Nat.reduceLeDiff, Value.category, Option.toList, true_or, or_true, z_ua, ↓reduceIte, Nat.reduceEqDiff, eq_self, not_true_eq_false, not_false_eq_true, false_implies, true_implies, Classical.not_not, Nat.le_refl, Nat.zero_le]
        try dsimp only
        refine zW_ok hj B234_102 102 _ _ _ _ _ b234_102 ?_
        simp only [B234_102, zW, z_wp1, z_ld, z_f0, z_f1, z_f2, z_f3, List.getElem?_cons_zero, List.getElem?_cons_succ, true_and, and_true, Int32.reduceOfInt, z_i10, z_i01, Int32.reduceLT, Int32.reduceLE, Int32.reduceAdd, Int32.reduceSub, z_set, z_set2, z_kil, List.set_cons_zero, List.set_cons_succ, List.take_succ_cons, List.take_zero, List.drop_succ_cons, List.drop_zero, List.reverse_cons, List.reverse_nil, List.nil_append, List.cons_append, List.getD_cons_succ, List.getD_cons_zero, List.getD_nil, List.length_cons, List.length_nil, List.map_cons, List.map_nil, List.sum_cons, List.sum_nil, Nat.reduceAdd, Nat.reduceLeDiff, Value.category, Option.toList, true_or, or_true, z_ua, ↓reduceIte, Nat.reduceEqDiff, eq_self, not_true_eq_false, not_false_eq_true, false_implies, true_implies, Classical.not_not, Nat.le_refl, Nat.zero_le]
        try dsimp only
        refine c234_end (C := c_C (mH I fs) cm N) (b := b) hS hj hd hm hsl gc2 (by omega) a5 a6 (hQ _ _ ⟨b, ⟨a4.1, fun v hv => a4.2.1 v hv ?_, a4.2.2⟩, rfl, I2, rfl, a1, a2⟩)
        have := c_last hP (by omega) hlast hv
        omega
      · simp only [zW, z_wp1, z_ld, z_f0, z_f1, z_f2, z_f3, List.getElem?_cons_zero, List.getElem?_cons_succ, true_and, and_true, Int32.reduceOfInt, z_i10, z_i01, Int32.reduceLT, Int32.reduceLE, Int32.reduceAdd, Int32.reduceSub, z_set, z_set2, z_kil, List.set_cons_zero, List.set_cons_succ, List.take_succ_cons, List.take_zero, List.drop_succ_cons, List.drop_zero, List.reverse_cons, List.reverse_nil, List.nil_append, List.cons_append, List.getD_cons_succ, List.getD_cons_zero, List.getD_nil, List.length_cons, List.length_nil, List.map_cons, List.map_nil, List.sum_cons, List.sum_nil, Nat.reduceAdd, Nat.reduceLeDiff, Value.category, Option.toList, true_or, or_true, z_ua, ↓reduceIte, Nat.reduceEqDiff, eq_self, not_true_eq_false, not_false_eq_true, false_implies, true_implies, Classical.not_not, Nat.le_refl, Nat.zero_le]
        try dsimp only
        have hP' := c_nx_P hP (show k' < cm by have := ht.1; omega) ht.2.2.1
        have hgt := c_nx_gt hP (by omega) ht
        refine ih _ I3 _ _ (by omega) hP' (fun q a b c => by rw [o3 q a]; exact a1 q a b c) (fun k hk => by rw [o3 71 (by decide)]; exact a2 k hk) r3 (Or.inr ⟨b, ⟨a4.1, fun v hv hl => a4.2.1 v hv ?_, a4.2.2⟩, by rw [o3 71 (by decide)]; exact a5, fun x hx => by rw [o3 96 (by decide)]; exact a6 x hx⟩)
        rcases Nat.lt_or_ge (c_v w cm) (c_v v cm) with z | z
        · have := c_nx_lt hP (by omega) ht hv z
          omega
        · omega
    -- a better one
    have tak : c_bs (c_C (mH I fs) cm N) cm (c_v w cm + 1) w → ∀ x7, zV X 130 [some (.ref 71), x1, x2, x3, some (.int what), some (.int 1), some (.int (nI (c_C (mH I fs) cm N w))), x7] [] (n, K, L, I', J, G) 0 0 := by
      intro hbs x7
      refine zW_ok hj B234_130 130 _ _ _ _ _ b234_130 ?_
      simp only [B234_130, zW, z_wp1, z_ld, z_f0, z_f1, z_f2, z_f3, List.getElem?_cons_zero, List.getElem?_cons_succ, true_and, and_true, Int32.reduceOfInt, z_i10, z_i01, Int32.reduceLT, Int32.reduceLE, Int32.reduceAdd, Int32.reduceSub, z_set, z_set2, z_kil, List.set_cons_zero, List.set_cons_succ, List.take_succ_cons, List.take_zero, List.drop_succ_cons, List.drop_zero, List.reverse_cons, List.reverse_nil, List.nil_append, List.cons_append, List.getD_cons_succ, List.getD_cons_zero, List.getD_nil, List.length_cons, List.length_nil, List.map_cons, List.map_nil, List.sum_cons, List.sum_nil, Nat.reduceAdd, Nat.reduceLeDiff, Value.category, Option.toList, true_or, or_true, z_ua, ↓reduceIte, Nat.reduceEqDiff, eq_self, not_true_eq_false, not_false_eq_true, false_implies, true_implies, Classical.not_not, Nat.le_refl, Nat.zero_le, sK71 hS]
      try dsimp only
      refine (c234_cp (I := z_u I' 71 52 (nI (c_C (mH I fs) cm N w))) (cm := cm) hS hj (by rw [z_u_at, if_neg (by decide)]; exact gc) (by omega) (fun I2 y o2 r2 => ?_) cm 0 _ (by omega) (fun _ _ => rfl) (fun y hy => by omega))
      refine nxt I2 w _ _ (fun q a b c => by rw [o2 q b, z_u_ne c]; exact h1 q a b c) (fun k hk => by rw [o2 71 (by decide), z_u_at, if_neg hk]; exact h2 k hk) (fun x hx => by rw [o2 95 (by decide), z_u_ne (by decide)]; exact h3 x hx) hbs (by rw [o2 71 (by decide), z_u_at, if_pos rfl]) (fun x hx => by rw [r2 x hx, z_u_ne (by decide)]; exact h3 x hx)
    refine zW_ok hj B234_102 102 _ _ _ _ _ b234_102 ?_
    simp only [B234_102, zW, z_wp1, z_ld, z_f0, z_f1, z_f2, z_f3, List.getElem?_cons_zero, List.getElem?_cons_succ, true_and, and_true, Int32.reduceOfInt, z_i10, z_i01, Int32.reduceLT, Int32.reduceLE, Int32.reduceAdd, Int32.reduceSub, z_set, z_set2, z_kil, List.set_cons_zero, List.set_cons_succ, List.take_succ_cons, List.take_zero, List.drop_succ_cons, List.drop_zero, List.reverse_cons, List.reverse_nil, List.nil_append, List.cons_append, List.getD_cons_succ, List.getD_cons_zero, List.getD_nil, List.length_cons, List.length_nil, List.map_cons, List.map_nil, List.sum_cons, List.sum_nil, Nat.reduceAdd, Nat.reduceLeDiff, Value.category, Option.toList, true_or, or_true, z_ua, ↓reduceIte, Nat.reduceEqDiff, eq_self, not_true_eq_false, not_false_eq_true, false_implies, true_implies, Classical.not_not, Nat.le_refl, Nat.zero_le, sK71 hS]
    try dsimp only
    have ci := c231 (l := X.1) (n := n) (J := J) (I := I') (fs := fs) (w := w) hS gm hN12 gc (by omega) hF.1 hP.1 h3
    rw [eH] at ci
    rcases hb with ⟨b1, b2⟩ | ⟨b, b1, b2, b3⟩
    · refine z_callD (ci) (by omega) (by omega) (by omega) (Nat.le_of_ble_eq_true rfl) ?_
      try simp only [zW, z_wp1, z_ld, z_f0, z_f1, z_f2, z_f3, List.getElem?_cons_zero, List.getElem?_cons_succ, true_and, and_true, Int32.reduceOfInt, z_i10, z_i01, Int32.reduceLT, Int32.reduceLE, Int32.reduceAdd, Int32.reduceSub, z_set, z_set2, z_kil, List.set_cons_zero, List.set_cons_succ, List.take_succ_cons, List.take_zero, List.drop_succ_cons, List.drop_zero, List.reverse_cons, List.reverse_nil, List.nil_append, List.cons_append, List.getD_cons_succ, List.getD_cons_zero, List.getD_nil, List.length_cons, List.length_nil, List.map_cons, List.map_nil, List.sum_cons, List.sum_nil, Nat.reduceAdd, Nat.reduceLeDiff, Value.category, Option.toList, true_or, or_true, z_ua, ↓reduceIte, Nat.reduceEqDiff, eq_self, not_true_eq_false, not_false_eq_true, false_implies, true_implies, Classical.not_not, Nat.le_refl, Nat.zero_le, sK71 hS, b1]
      try dsimp only
      exact tak ⟨hP, fun v hv hl => by rw [c_C_ext v w (c_v_eq (hv.dg hP (by omega)) (by have := b2 v hv; omega))]; exact Nat.le_refl _, fun v hv hl => by have := b2 v hv; omega⟩ _
    · obtain ⟨q1, q2⟩ := c_bs_1 (by omega) (fun v v' e => c_C_ext v v' e) b1 hP
      have n1 : ¬ nI (c_C (mH I fs) cm N b) = -1 := nI_neg1 (by have := bC b; omega)
      have le : nI (c_C (mH I fs) cm N b) ≤ nI (c_C (mH I fs) cm N w) ↔ c_C (mH I fs) cm N b ≤ c_C (mH I fs) cm N w := nI_leI (by have := bC b; omega) (by have := bC w; omega)
      refine z_callD (ci) (by omega) (by omega) (by omega) (Nat.le_of_ble_eq_true rfl) ?_
      try simp only [zW, z_wp1, z_ld, z_f0, z_f1, z_f2, z_f3, List.getElem?_cons_zero, List.getElem?_cons_succ, true_and, and_true, Int32.reduceOfInt, z_i10, z_i01, Int32.reduceLT, Int32.reduceLE, Int32.reduceAdd, Int32.reduceSub, z_set, z_set2, z_kil, List.set_cons_zero, List.set_cons_succ, List.take_succ_cons, List.take_zero, List.drop_succ_cons, List.drop_zero, List.reverse_cons, List.reverse_nil, List.nil_append, List.cons_append, List.getD_cons_succ, List.getD_cons_zero, List.getD_nil, List.length_cons, List.length_nil, List.map_cons, List.map_nil, List.sum_cons, List.sum_nil, Nat.reduceAdd, Nat.reduceLeDiff, Value.category, Option.toList, true_or, or_true, z_ua, ↓reduceIte, Nat.reduceEqDiff, eq_self, not_true_eq_false, not_false_eq_true, false_implies, true_implies, Classical.not_not, Nat.le_refl, Nat.zero_le, sK71 hS, b2, n1, le]
      try dsimp only
      refine ⟨fun h => ?_, fun h => tak (q1 (by omega)) _⟩
      exact nxt I' b _ _ h1 h2 h3 (q2 (by omega)) b2 b3
theorem s_fs.cF {F : Nat} {b : Nat → Bool} {fs : Nat → Nat} (h : s_fs F b fs) (hF : F ≤ 16) : c_F (s_rk b F) fs := by
  refine ⟨fun p hp => by have := (h.at hp).1; omega, fun p q hpq hq => ?_⟩
  obtain ⟨a1, a2, a3⟩ := h.at (p := p) (by omega)
  obtain ⟨b1, b2, b3⟩ := h.at (p := q) hq
  rcases Nat.lt_or_ge (fs p) (fs q) with z | z
  · exact z
  · have := s_rk_mono (s := b) z
    omega
/-- crosses -/
theorem c234a (hS : SS K L G) (hst : m_st I c F N tr) {mode asked what : Int32} (hs16 : s < 2 ^ F) (h : m_cr F N mode (nI s) asked) (h8 : s_rk (zb (nI s)) 16 ≤ 8) : z_Ctr l 4 234 [.ref 71, .int mode, .int (nI s), .int asked, .int what] (n, K, L, I, J, G) 0 0 (fun r h' => ∃ fs b, s_fs F (zb (nI s)) fs ∧ c_B (c_C (fun i p => zb (mHo I c F N tr mode asked s i) (fs p)) (s_rk (zb (nI s)) F) N) (s_rk (zb (nI s)) F) b ∧ r = some (.int (mCa (c_C (fun i p => zb (mHo I c F N tr mode asked s i) (fs p)) (s_rk (zb (nI s)) F) N) fs (s_rk (zb (nI s)) F) b what)) ∧ ∃ I', h' = (n, K, L, I', J, G) ∧ mF I I') := by
  have hst' := (m_sm.t I).st hst
  obtain ⟨s1, s2, s3, s4, s5, s6, s7⟩ := id hst'
  have h16 := z_powF s4
  have erk : s_rk (zb (nI s)) 16 = s_rk (zb (nI s)) F := s_rk_ext (fun p hp => zb_of s4 hs16 hp) s4
  have n8 : nI (s_rk (zb (nI s)) 16) ≤ 8 := (nI_leI (b := 8) (by omega) (by omega)).mpr h8
  refine z_ctr (by decide) (by decide +kernel) (Nat.le_of_ble_eq_true rfl) (by decide +kernel) (fun X hl hj hd hm hs hsc hQ => ?_)
  show zV X 0 [some (.ref 71), some (.int mode), some (.int (nI s)), some (.int asked), some (.int what), none, none, none] [] _ 0 0
  refine zW_ok hj B234_0 0 _ _ _ _ _ b234_0 ?_
  simp only [B234_0, zW, z_wp1, z_ld, z_f0, z_f1, z_f2, z_f3, List.getElem?_cons_zero, List.getElem?_cons_succ, true_and, and_true, Int32.reduceOfInt, z_i10, z_i01, Int32.reduceLT, Int32.reduceLE, Int32.reduceAdd, Int32.reduceSub, z_set, z_set2, z_kil, List.set_cons_zero, List.set_cons_succ, List.take_succ_cons, List.take_zero, List.drop_succ_cons, List.drop_zero, List.reverse_cons, List.reverse_nil, List.nil_append, List.cons_append, List.getD_cons_succ, List.getD_cons_zero, List.getD_nil, List.length_cons, List.length_nil, List.map_cons, List.map_nil, List.sum_cons, List.sum_nil, Nat.reduceAdd, Nat.reduceLeDiff, Value.category, Option.toList, true_or, or_true, z_ua, ↓reduceIte, Nat.reduceEqDiff, eq_self, not_true_eq_false, not_false_eq_true, false_implies, true_implies, Classical.not_not, Nat.le_refl, Nat.zero_le, sK71 hS]
  try dsimp only
  refine z_callD (c227y (I := m_t I) hS hst' h) (by omega) (by omega) (by omega) (Nat.le_of_ble_eq_true rfl) ?_
  try simp only [zW, z_wp1, z_ld, z_f0, z_f1, z_f2, z_f3, List.getElem?_cons_zero, List.getElem?_cons_succ, true_and, and_true, Int32.reduceOfInt, z_i10, z_i01, Int32.reduceLT, Int32.reduceLE, Int32.reduceAdd, Int32.reduceSub, z_set, z_set2, z_kil, List.set_cons_zero, List.set_cons_succ, List.take_succ_cons, List.take_zero, List.drop_succ_cons, List.drop_zero, List.reverse_cons, List.reverse_nil, List.nil_append, List.cons_append, List.getD_cons_succ, List.getD_cons_zero, List.getD_nil, List.length_cons, List.length_nil, List.map_cons, List.map_nil, List.sum_cons, List.sum_nil, Nat.reduceAdd, Nat.reduceLeDiff, Value.category, Option.toList, true_or, or_true, z_ua, ↓reduceIte, Nat.reduceEqDiff, eq_self, not_true_eq_false, not_false_eq_true, false_implies, true_implies, Classical.not_not, Nat.le_refl, Nat.zero_le, sK71 hS]
  try dsimp only
  refine z_callD (c233 (n := n) (K := K) (L := L) (I := m_t I) (J := J) (G := G) (nI s) (fun i hi => zb_of (N := 16) (by omega) (by omega) hi)) (by omega) (by omega) (by omega) (Nat.le_of_ble_eq_true rfl) ?_
  try simp only [zW, z_wp1, z_ld, z_f0, z_f1, z_f2, z_f3, List.getElem?_cons_zero, List.getElem?_cons_succ, true_and, and_true, Int32.reduceOfInt, z_i10, z_i01, Int32.reduceLT, Int32.reduceLE, Int32.reduceAdd, Int32.reduceSub, z_set, z_set2, z_kil, List.set_cons_zero, List.set_cons_succ, List.take_succ_cons, List.take_zero, List.drop_succ_cons, List.drop_zero, List.reverse_cons, List.reverse_nil, List.nil_append, List.cons_append, List.getD_cons_succ, List.getD_cons_zero, List.getD_nil, List.length_cons, List.length_nil, List.map_cons, List.map_nil, List.sum_cons, List.sum_nil, Nat.reduceAdd, Nat.reduceLeDiff, Value.category, Option.toList, true_or, or_true, z_ua, ↓reduceIte, Nat.reduceEqDiff, eq_self, not_true_eq_false, not_false_eq_true, false_implies, true_implies, Classical.not_not, Nat.le_refl, Nat.zero_le, sK71 hS, n8]
  try dsimp only
  refine zW_ok hj B234_27 27 _ _ _ _ _ b234_27 ?_
  simp only [B234_27, zW, z_wp1, z_ld, z_f0, z_f1, z_f2, z_f3, List.getElem?_cons_zero, List.getElem?_cons_succ, true_and, and_true, Int32.reduceOfInt, z_i10, z_i01, Int32.reduceLT, Int32.reduceLE, Int32.reduceAdd, Int32.reduceSub, z_set, z_set2, z_kil, List.set_cons_zero, List.set_cons_succ, List.take_succ_cons, List.take_zero, List.drop_succ_cons, List.drop_zero, List.reverse_cons, List.reverse_nil, List.nil_append, List.cons_append, List.getD_cons_succ, List.getD_cons_zero, List.getD_nil, List.length_cons, List.length_nil, List.map_cons, List.map_nil, List.sum_cons, List.sum_nil, Nat.reduceAdd, Nat.reduceLeDiff, Value.category, Option.toList, true_or, or_true, z_ua, ↓reduceIte, Nat.reduceEqDiff, eq_self, not_true_eq_false, not_false_eq_true, false_implies, true_implies, Classical.not_not, Nat.le_refl, Nat.zero_le, sK71 hS]
  try dsimp only
  refine z_callQ (c198 (I := m_t I) (J := J) hS hst' mode) (by omega) (by omega) (by omega) (Nat.le_of_ble_eq_true rfl) ?_
  rintro r h' ⟨rfl, I1, rfl, o1, r1⟩
  simp only [zW, z_wp1, z_ld, z_f0, z_f1, z_f2, z_f3, List.getElem?_cons_zero, List.getElem?_cons_succ, true_and, and_true, Int32.reduceOfInt, z_i10, z_i01, Int32.reduceLT, Int32.reduceLE, Int32.reduceAdd, Int32.reduceSub, z_set, z_set2, z_kil, List.set_cons_zero, List.set_cons_succ, List.take_succ_cons, List.take_zero, List.drop_succ_cons, List.drop_zero, List.reverse_cons, List.reverse_nil, List.nil_append, List.cons_append, List.getD_cons_succ, List.getD_cons_zero, List.getD_nil, List.length_cons, List.length_nil, List.map_cons, List.map_nil, List.sum_cons, List.sum_nil, Nat.reduceAdd, Nat.reduceLeDiff, Value.category, Option.toList, true_or, or_true, z_ua, ↓reduceIte, Nat.reduceEqDiff, eq_self, not_true_eq_false, not_false_eq_true, false_implies, true_implies, Classical.not_not, Nat.le_refl, Nat.zero_le, sK71 hS]
  try dsimp only
  have e71 : I1 71 = m_t I 71 := o1 71 (by decide) (by decide) (by decide)
  refine z_callQ (c224 (I := I1) (J := J) (F := F) (N := N) hS (nI s) asked (by rw [e71]; exact s3) s4 (by rw [e71]; exact s5) s6) (by omega) (by omega) (by omega) (Nat.le_of_ble_eq_true rfl) ?_
  rintro r h' ⟨rfl, I2, rfl, o2, r2⟩
  simp only [zW, z_wp1, z_ld, z_f0, z_f1, z_f2, z_f3, List.getElem?_cons_zero, List.getElem?_cons_succ, true_and, and_true, Int32.reduceOfInt, z_i10, z_i01, Int32.reduceLT, Int32.reduceLE, Int32.reduceAdd, Int32.reduceSub, z_set, z_set2, z_kil, List.set_cons_zero, List.set_cons_succ, List.take_succ_cons, List.take_zero, List.drop_succ_cons, List.drop_zero, List.reverse_cons, List.reverse_nil, List.nil_append, List.cons_append, List.getD_cons_succ, List.getD_cons_zero, List.getD_nil, List.length_cons, List.length_nil, List.map_cons, List.map_nil, List.sum_cons, List.sum_nil, Nat.reduceAdd, Nat.reduceLeDiff, Value.category, Option.toList, true_or, or_true, z_ua, ↓reduceIte, Nat.reduceEqDiff, eq_self, not_true_eq_false, not_false_eq_true, false_implies, true_implies, Classical.not_not, Nat.le_refl, Nat.zero_le, sK71 hS]
  try dsimp only
  have e71' : I2 71 = m_t I 71 := (o2 71 (by decide)).trans e71
  have eh : ∀ i, i < N → I2 94 i = mHo (m_t I) c F N tr mode asked s i := fun i hi => by
    rw [r2 i hi, mHo, m_ho, m_ho, m_hold_congr r1]
  have fr2 : mF I I2 := ((mF.t I).tr o1.F).tr ⟨fun q hq => o2 q (by unfold mP at hq; omega), fun k _ => by rw [o2 71 (by decide)]⟩
  refine (c234_row (I := I2) (F := F) (set := nI s) (x1 := some (.int mode)) (x3 := some (.int asked)) (y4 := what) hS hj (by rw [e71']; exact s3) s4 (fun I3 x5 f1 f2 f3 f4 => ?_) F 0 _ (by omega) (fun q _ b => by rw [z_u_ne b]) (fun k hk => by rw [z_u_at, if_neg hk]) (by rw [z_u_at, if_pos rfl]; rfl) (fun g hg => by omega)).weak (by simp only [z_le, nI_0]; simp)
  obtain ⟨fs, hfs, hfs2⟩ : ∃ fs : Nat → Nat, s_fs F (zb (nI s)) fs ∧ ∀ p, p < s_rk (zb (nI s)) F → I3 95 p = nI (fs p) := by
    refine ⟨fun p => (I3 95 p).toNatClampNeg, fun f hf hs => ?_, fun p hp => ?_⟩
    · show (I3 95 (s_rk (zb (nI s)) f)).toNatClampNeg = f
      rw [f4 f hf hs, nI_clamp (by omega)]
    · obtain ⟨f, h1, h2, h3⟩ := s_rk_at hp
      have := f4 f h1 h2
      rw [h3] at this
      show I3 95 p = nI (I3 95 p).toNatClampNeg
      rw [this, nI_clamp (by omega)]
  have hcm : s_rk (zb (nI s)) F ≤ 8 := by omega
  refine zW_ok hj B234_94 94 _ _ _ _ _ b234_94 ?_
  simp only [B234_94, zW, z_wp1, z_ld, z_f0, z_f1, z_f2, z_f3, List.getElem?_cons_zero, List.getElem?_cons_succ, true_and, and_true, Int32.reduceOfInt, z_i10, z_i01, Int32.reduceLT, Int32.reduceLE, Int32.reduceAdd, Int32.reduceSub, z_set, z_set2, z_kil, List.set_cons_zero, List.set_cons_succ, List.take_succ_cons, List.take_zero, List.drop_succ_cons, List.drop_zero, List.reverse_cons, List.reverse_nil, List.nil_append, List.cons_append, List.getD_cons_succ, List.getD_cons_zero, List.getD_nil, List.length_cons, List.length_nil, List.map_cons, List.map_nil, List.sum_cons, List.sum_nil, Nat.reduceAdd, Nat.reduceLeDiff, Value.category, Option.toList, true_or, or_true, z_ua, ↓reduceIte, Nat.reduceEqDiff, eq_self, not_true_eq_false, not_false_eq_true, false_implies, true_implies, Classical.not_not, Nat.le_refl, Nat.zero_le, sK71 hS]
  try dsimp only
  refine c234_loop (I := z_u I3 71 52 (-1)) (N := N) (cm := s_rk (zb (nI s)) F) (fs := fs) hS hj hd hm hs (by rw [z_u_at, if_neg (by decide), f2 _ (by decide), e71']; exact s5) s6 (by rw [z_u_at, if_neg (by decide)]; exact f3) hcm (s_fs.cF hfs s4) (what := what) ?_ (16 ^ s_rk (zb (nI s)) F) (fun i => i) _ none none (by omega) ⟨fun i h => h, fun i j _ _ e => e⟩ (fun _ _ _ _ => rfl) (fun _ _ => rfl) (fun x hx => by rw [z_u_ne (by decide)]; exact hfs2 x hx) (Or.inl ⟨by rw [z_u_at, if_pos rfl], fun v hv => c_first (by omega) hv⟩)
  have e94 : ∀ i, i < N → z_u I3 71 52 (-1) 94 i = mHo I c F N tr mode asked s i := fun i hi => by
    rw [z_u_ne (by decide), f1 94 (by decide) (by decide)]
    exact eh i hi
  have eC : c_C (mH (z_u I3 71 52 (-1)) fs) (s_rk (zb (nI s)) F) N = c_C (fun i p => zb (mHo I c F N tr mode asked s i) (fs p)) (s_rk (zb (nI s)) F) N := by
    funext v
    unfold c_C
    refine s_sum_congr (fun i hi => ?_)
    have : (fun x => mH (z_u I3 71 52 (-1)) fs i (v x)) = fun x => zb (mHo I c F N tr mode asked s i) (fs (v x)) := by
      funext x
      rw [mH, e94 i hi]
    rw [this]
  rw [eC]
  rintro r h' ⟨b, hb, rfl, I4, rfl, g1, g2⟩
  refine hQ _ _ ⟨fs, b, hfs, hb, rfl, I4, rfl, fr2.tr ⟨fun q hq => ?_, fun k hk => ?_⟩⟩
  · unfold mP at hq
    rw [g1 q (by omega) (by omega) (by omega), z_u_ne (by omega), f1 q (by omega) (by omega)]
  · unfold mQ at hk
    rw [g2 k (by omega), z_u_at, if_neg (by omega), f2 k (by omega)]
theorem c234b (hS : SS K L G) (hst : m_st I c F N tr) {mode set asked what : Int32} (h : ¬ (m_cr F N mode set asked ∧ s_rk (zb set) 16 ≤ 8)) : z_D l 4 234 [.ref 71, .int mode, .int set, .int asked, .int what] (n, K, L, I, J, G) (some (.int (-1))) (n, K, L, m_t I, J, G) := by
  have hst' := (m_sm.t I).st hst
  obtain ⟨s1, s2, s3, s4, s5, s6, s7⟩ := id hst'
  refine z_ctr (by decide) (by decide +kernel) (Nat.le_of_ble_eq_true rfl) (by decide +kernel) (fun X hl hj hd hm hs hsc hQ => ?_)
  show zV X 0 [some (.ref 71), some (.int mode), some (.int set), some (.int asked), some (.int what), none, none, none] [] _ 0 0
  have no : zV X 25 [some (.ref 71), some (.int mode), some (.int set), some (.int asked), some (.int what), none, none, none] [] (n, K, L, m_t I, J, G) 0 0 := by
    refine zW_ok hj B234_25 25 _ _ _ _ _ b234_25 ?_
    simp only [B234_25, zW, z_wp1, z_ld, z_f0, z_f1, z_f2, z_f3, List.getElem?_cons_zero, List.getElem?_cons_succ, true_and, and_true, Int32.reduceOfInt, z_i10, z_i01, Int32.reduceLT, Int32.reduceLE, Int32.reduceAdd, Int32.reduceSub, z_set, z_set2, z_kil, List.set_cons_zero, List.set_cons_succ, List.take_succ_cons, List.take_zero, List.drop_succ_cons, List.drop_zero, List.reverse_cons, List.reverse_nil, List.nil_append, List.cons_append, List.getD_cons_succ, List.getD_cons_zero, List.getD_nil, List.length_cons, List.length_nil, List.map_cons, List.map_nil, List.sum_cons, List.sum_nil, Nat.reduceAdd, Nat.reduceLeDiff, Value.category, Option.toList, true_or, or_true, z_ua, ↓reduceIte, Nat.reduceEqDiff, eq_self, not_true_eq_false, not_false_eq_true, false_implies, true_implies, Classical.not_not, Nat.le_refl, Nat.zero_le]
    try dsimp only
    exact hQ _ _ ⟨rfl, rfl⟩
  refine zW_ok hj B234_0 0 _ _ _ _ _ b234_0 ?_
  simp only [B234_0, zW, z_wp1, z_ld, z_f0, z_f1, z_f2, z_f3, List.getElem?_cons_zero, List.getElem?_cons_succ, true_and, and_true, Int32.reduceOfInt, z_i10, z_i01, Int32.reduceLT, Int32.reduceLE, Int32.reduceAdd, Int32.reduceSub, z_set, z_set2, z_kil, List.set_cons_zero, List.set_cons_succ, List.take_succ_cons, List.take_zero, List.drop_succ_cons, List.drop_zero, List.reverse_cons, List.reverse_nil, List.nil_append, List.cons_append, List.getD_cons_succ, List.getD_cons_zero, List.getD_nil, List.length_cons, List.length_nil, List.map_cons, List.map_nil, List.sum_cons, List.sum_nil, Nat.reduceAdd, Nat.reduceLeDiff, Value.category, Option.toList, true_or, or_true, z_ua, ↓reduceIte, Nat.reduceEqDiff, eq_self, not_true_eq_false, not_false_eq_true, false_implies, true_implies, Classical.not_not, Nat.le_refl, Nat.zero_le, sK71 hS]
  try dsimp only
  by_cases hc : m_cr F N mode set asked
  · refine z_callD (c227y (I := m_t I) hS hst' hc) (by omega) (by omega) (by omega) (Nat.le_of_ble_eq_true rfl) ?_
    try simp only [zW, z_wp1, z_ld, z_f0, z_f1, z_f2, z_f3, List.getElem?_cons_zero, List.getElem?_cons_succ, true_and, and_true, Int32.reduceOfInt, z_i10, z_i01, Int32.reduceLT, Int32.reduceLE, Int32.reduceAdd, Int32.reduceSub, z_set, z_set2, z_kil, List.set_cons_zero, List.set_cons_succ, List.take_succ_cons, List.take_zero, List.drop_succ_cons, List.drop_zero, List.reverse_cons, List.reverse_nil, List.nil_append, List.cons_append, List.getD_cons_succ, List.getD_cons_zero, List.getD_nil, List.length_cons, List.length_nil, List.map_cons, List.map_nil, List.sum_cons, List.sum_nil, Nat.reduceAdd, Nat.reduceLeDiff, Value.category, Option.toList, true_or, or_true, z_ua, ↓reduceIte, Nat.reduceEqDiff, eq_self, not_true_eq_false, not_false_eq_true, false_implies, true_implies, Classical.not_not, Nat.le_refl, Nat.zero_le, sK71 hS]
    try dsimp only
    have hb := (zb_rng (N := F) s4).mp hc.2.1
    have n8 : ¬ nI (s_rk (zb set) 16) ≤ 8 := fun q => h ⟨hc, (nI_leI (b := 8) (by have := s_rk_n (zb set) 16; omega) (by omega)).mp q⟩
    refine z_callD (c233 (n := n) (K := K) (L := L) (I := m_t I) (J := J) (G := G) set (fun i hi => hb i (by omega))) (by omega) (by omega) (by omega) (Nat.le_of_ble_eq_true rfl) ?_
    try simp only [zW, z_wp1, z_ld, z_f0, z_f1, z_f2, z_f3, List.getElem?_cons_zero, List.getElem?_cons_succ, true_and, and_true, Int32.reduceOfInt, z_i10, z_i01, Int32.reduceLT, Int32.reduceLE, Int32.reduceAdd, Int32.reduceSub, z_set, z_set2, z_kil, List.set_cons_zero, List.set_cons_succ, List.take_succ_cons, List.take_zero, List.drop_succ_cons, List.drop_zero, List.reverse_cons, List.reverse_nil, List.nil_append, List.cons_append, List.getD_cons_succ, List.getD_cons_zero, List.getD_nil, List.length_cons, List.length_nil, List.map_cons, List.map_nil, List.sum_cons, List.sum_nil, Nat.reduceAdd, Nat.reduceLeDiff, Value.category, Option.toList, true_or, or_true, z_ua, ↓reduceIte, Nat.reduceEqDiff, eq_self, not_true_eq_false, not_false_eq_true, false_implies, true_implies, Classical.not_not, Nat.le_refl, Nat.zero_le, sK71 hS, n8]
    try dsimp only
    exact no
  · refine z_callD (c227n (I := m_t I) hS hst' hc) (by omega) (by omega) (by omega) (Nat.le_of_ble_eq_true rfl) ?_
    try simp only [zW, z_wp1, z_ld, z_f0, z_f1, z_f2, z_f3, List.getElem?_cons_zero, List.getElem?_cons_succ, true_and, and_true, Int32.reduceOfInt, z_i10, z_i01, Int32.reduceLT, Int32.reduceLE, Int32.reduceAdd, Int32.reduceSub, z_set, z_set2, z_kil, List.set_cons_zero, List.set_cons_succ, List.take_succ_cons, List.take_zero, List.drop_succ_cons, List.drop_zero, List.reverse_cons, List.reverse_nil, List.nil_append, List.cons_append, List.getD_cons_succ, List.getD_cons_zero, List.getD_nil, List.length_cons, List.length_nil, List.map_cons, List.map_nil, List.sum_cons, List.sum_nil, Nat.reduceAdd, Nat.reduceLeDiff, Value.category, Option.toList, true_or, or_true, z_ua, ↓reduceIte, Nat.reduceEqDiff, eq_self, not_true_eq_false, not_false_eq_true, false_implies, true_implies, Classical.not_not, Nat.le_refl, Nat.zero_le, sK71 hS]
    try dsimp only
    exact no
end CRS4
