/-! Crosses of the class: bound, lay, bestAt, keepOrder -/
theorem nI_max {a b : Nat} (ha : a < 2 ^ 31) (hb : b < 2 ^ 31) : (if nI a < nI b then nI b else nI a) = nI (max a b) := by
  by_cases h : a < b
  · rw [if_pos (nI_lt h hb), Nat.max_eq_right (by omega)]
  · rw [if_neg (fun q => h ((nI_ltI ha hb).mp q)), Nat.max_eq_left (by omega)]
section CRS5
variable {l : Launch} {n : Nat} {K L : Nat → Nat} {I : Nat → Nat → Int32} {J : Nat → Nat → Int64} {G : Nat → Nat → Value} {as cn d p : Nat} {A B T tot : Nat → Nat}
/-- a level of the search -/
def c_lv (I : Nat → Nat → Int32) (as d : Nat) (A B T : Nat → Nat) : Prop := ∀ m, m < as → I 49 (d * 12 + m) = nI (A m) ∧ I 48 (d * 12 + m) = nI (B m) ∧ I 50 (d * 12 + m) = nI (T m)
def c_ok (as : Nat) (A B T tot : Nat → Nat) : Prop := ∀ m, m < as → tot m ≤ 16 ∧ A m ≤ tot m ∧ B m + T m ≤ tot m
def c_sm (A B T tot : Nat → Nat) (as : Nat) : Nat := s_sum (fun m => tot m - max (A m) (B m + T m)) as
theorem c7_loop {X : zX} (hS : SS K L G) (hj : X.2.1 = 7) (hd1 : 1 ≤ X.2.2.1) (h9 : I 43 9 = nI as) (has : as ≤ 12) (hd : d ≤ 8) (hlv : c_lv I as d A B T) (hto : ∀ m, m < as → I 50 m = nI (tot m)) (hok : c_ok as A B T tot) (hQ : ∀ r h', r = some (.int (nI (c_sm A B T tot as))) ∧ h' = (n, K, L, I, J, G) → X.2.2.2.2.2.2 r h') : ∀ (k m : Nat) (x5 : Option Value), m + k = as → zV X 10 [some (.ref 43), some (.int (nI d)), some (.int (nI (d * 12))), some (.int (nI (c_sm A B T tot m))), some (.int (nI m)), x5] [] (n, K, L, I, J, G) 0 0
  | 0, m, x5, hk => by
    have e : m = as := by omega
    subst e
    refine zW_ok hj B7_10 10 _ _ _ _ _ b7_10 ?_
    simp only [B7_10, zW, z_wp1, z_ld, z_f0, z_f1, z_f2, z_f3, List.getElem?_cons_zero, List.getElem?_cons_succ, true_and, and_true, Int32.reduceOfInt, z_i10, z_i01, Int32.reduceLT, Int32.reduceLE, Int32.reduceAdd, Int32.reduceSub, z_set, z_set2, z_kil, List.set_cons_zero, List.set_cons_succ, List.take_succ_cons, List.take_zero, List.drop_succ_cons, List.drop_zero, List.reverse_cons, List.reverse_nil, List.nil_append, List.cons_append, List.getD_cons_succ, List.getD_cons_zero, List.getD_nil, List.length_cons, List.length_nil, List.map_cons, List.map_nil, List.sum_cons, List.sum_nil, Nat.reduceAdd, Nat.reduceLeDiff, Value.category, Option.toList, true_or, or_true, z_ua, ↓reduceIte, Nat.reduceEqDiff, eq_self, not_true_eq_false, not_false_eq_true, false_implies, true_implies, Classical.not_not, Nat.le_refl, Nat.zero_le, sK43 hS, h9]
    try dsimp only
    refine ⟨fun _ => ?_, fun q => absurd (nI_le (Nat.le_refl _) (by omega)) q⟩
    refine zW_ok hj B7_71 71 _ _ _ _ _ b7_71 ?_
    simp only [B7_71, zW, z_wp1, z_ld, z_f0, z_f1, z_f2, z_f3, List.getElem?_cons_zero, List.getElem?_cons_succ, true_and, and_true, Int32.reduceOfInt, z_i10, z_i01, Int32.reduceLT, Int32.reduceLE, Int32.reduceAdd, Int32.reduceSub, z_set, z_set2, z_kil, List.set_cons_zero, List.set_cons_succ, List.take_succ_cons, List.take_zero, List.drop_succ_cons, List.drop_zero, List.reverse_cons, List.reverse_nil, List.nil_append, List.cons_append, List.getD_cons_succ, List.getD_cons_zero, List.getD_nil, List.length_cons, List.length_nil, List.map_cons, List.map_nil, List.sum_cons, List.sum_nil, Nat.reduceAdd, Nat.reduceLeDiff, Value.category, Option.toList, true_or, or_true, z_ua, ↓reduceIte, Nat.reduceEqDiff, eq_self, not_true_eq_false, not_false_eq_true, false_implies, true_implies, Classical.not_not, Nat.le_refl, Nat.zero_le]
    try dsimp only
    exact hQ _ _ ⟨rfl, rfl⟩
  | k + 1, m, x5, hk => by
    have ih := c7_loop hS hj hd1 h9 has hd hlv hto hok hQ k (m + 1)
    obtain ⟨a1, a2, a3⟩ := hlv m (by omega)
    obtain ⟨b1, b2, b3⟩ := hok m (by omega)
    have t1 := hto m (by omega)
    have e1 : (nI (d * 12 + m)).toNatClampNeg = d * 12 + m := nI_clamp (by omega)
    have v1 : vp_in (nI (d * 12 + m)) 108 := vp_in_nI (by omega) (by omega)
    have e2 : (nI m).toNatClampNeg = m := nI_clamp (by omega)
    have v2 : vp_in (nI m) 108 := vp_in_nI (by omega) (by omega)
    have e3 : nI (c_sm A B T tot m) + (nI (tot m) - nI (max (A m) (B m + T m))) = nI (c_sm A B T tot (m + 1)) := by
      rw [nI_sub' (by omega), nI_add]
      rfl
    refine zW_ok hj B7_10 10 _ _ _ _ _ b7_10 ?_
    simp only [B7_10, zW, z_wp1, z_ld, z_f0, z_f1, z_f2, z_f3, List.getElem?_cons_zero, List.getElem?_cons_succ, true_and, and_true, Int32.reduceOfInt, z_i10, z_i01, Int32.reduceLT, Int32.reduceLE, Int32.reduceAdd, Int32.reduceSub, z_set, z_set2, z_kil, List.set_cons_zero, List.set_cons_succ, List.take_succ_cons, List.take_zero, List.drop_succ_cons, List.drop_zero, List.reverse_cons, List.reverse_nil, List.nil_append, List.cons_append, List.getD_cons_succ, List.getD_cons_zero, List.getD_nil, List.length_cons, List.length_nil, List.map_cons, List.map_nil, List.sum_cons, List.sum_nil, Nat.reduceAdd, Nat.reduceLeDiff, Value.category, Option.toList, true_or, or_true, z_ua, ↓reduceIte, Nat.reduceEqDiff, eq_self, not_true_eq_false, not_false_eq_true, false_implies, true_implies, Classical.not_not, Nat.le_refl, Nat.zero_le, sK43 hS, h9, sG43_11 hS, sK49 hS, sL49 hS, sG43_10 hS, sK48 hS, sL48 hS, sG43_12 hS, sK50 hS, sL50 hS, nI_add, e1, v1, e2, v2, a1, a2, a3, t1, nI_max (show A m < 2 ^ 31 by omega) (show B m + T m < 2 ^ 31 by omega), e3, nI_1]
    try dsimp only
    exact ⟨fun q => absurd q (nI_ge (by omega) (by omega)), fun _ => ⟨hd1, ih _ (by omega)⟩⟩
/-- bound -/
theorem c7 (hS : SS K L G) (h9 : I 43 9 = nI as) (has : as ≤ 12) (hd8 : d ≤ 8) (hlv : c_lv I as d A B T) (hto : ∀ m, m < as → I 50 m = nI (tot m)) (hok : c_ok as A B T tot) : z_D l 1 7 [.ref 43, .int (nI d)] (n, K, L, I, J, G) (some (.int (nI (c_sm A B T tot as)))) (n, K, L, I, J, G) := by
  have e12 : nI d * 12 = nI (d * 12) := nI_mul d 12
  refine z_ctr (by decide) (by decide +kernel) (Nat.le_of_ble_eq_true rfl) (by decide +kernel) (fun X hl hj hd hm hs hsc hQ => ?_)
  show zV X 0 [some (.ref 43), some (.int (nI d)), none, none, none, none] [] _ 0 0
  refine zW_ok hj B7_0 0 _ _ _ _ _ b7_0 ?_
  simp only [B7_0, zW, z_wp1, z_ld, z_f0, z_f1, z_f2, z_f3, List.getElem?_cons_zero, List.getElem?_cons_succ, true_and, and_true, Int32.reduceOfInt, z_i10, z_i01, Int32.reduceLT, Int32.reduceLE, Int32.reduceAdd, Int32.reduceSub, z_set, z_set2, z_kil, List.set_cons_zero, List.set_cons_succ, List.take_succ_cons, List.take_zero, List.drop_succ_cons, List.drop_zero, List.reverse_cons, List.reverse_nil, List.nil_append, List.cons_append, List.getD_cons_succ, List.getD_cons_zero, List.getD_nil, List.length_cons, List.length_nil, List.map_cons, List.map_nil, List.sum_cons, List.sum_nil, Nat.reduceAdd, Nat.reduceLeDiff, Value.category, Option.toList, true_or, or_true, z_ua, ↓reduceIte, Nat.reduceEqDiff, eq_self, not_true_eq_false, not_false_eq_true, false_implies, true_implies, Classical.not_not, Nat.le_refl, Nat.zero_le, e12]
  try dsimp only
  exact c7_loop hS hj (by omega) h9 has hd8 hlv hto hok hQ as 0 _ (by omega)
/-- the next level -/
def c_A' (A B : Nat → Nat) (h : Nat → Bool) (m : Nat) : Nat := max (A m) (if h m = true then B m + 1 else 0)
def c_B' (B : Nat → Nat) (h : Nat → Bool) (m : Nat) : Nat := if h m = true then B m + 1 else 0
def c_T' (T : Nat → Nat) (h : Nat → Bool) (m : Nat) : Nat := if h m = true then T m - 1 else T m
theorem c6_loop {X : zX} (hS : SS K L G) (hj : X.2.1 = 6) (hd1 : X.2.2.1 = 2) (hm : X.2.2.2.1 = 0) (hs : X.2.2.2.2.1 = 0) (h9 : I 43 9 = nI as) (has : as ≤ 12) (hd : d ≤ 7) (hp : p < 8) (hlv : c_lv I as d A B T) (hto : ∀ m, m < as → I 50 m = nI (tot m)) (hok : c_ok as A B T tot) (hT : ∀ m, m < as → zb (I 47 m) p = true → 1 ≤ T m)
    (hQ : ∀ r h', (r = some (.int (nI (c_sm (c_A' A B (fun m => zb (I 47 m) p)) (c_B' B (fun m => zb (I 47 m) p)) (c_T' T (fun m => zb (I 47 m) p)) tot as))) ∧ ∃ I', h' = (n, K, L, I', J, G) ∧ (∀ q, q ≠ 48 → q ≠ 49 → q ≠ 50 → I' q = I q) ∧ (∀ j, j < (d + 1) * 12 → I' 48 j = I 48 j ∧ I' 49 j = I 49 j ∧ I' 50 j = I 50 j) ∧ c_lv I' as (d + 1) (c_A' A B (fun m => zb (I 47 m) p)) (c_B' B (fun m => zb (I 47 m) p)) (c_T' T (fun m => zb (I 47 m) p))) → X.2.2.2.2.2.2 r h') : ∀ (k m : Nat) (I' : Nat → Nat → Int32) (x6 : Option Value), m + k = as → (∀ q, q ≠ 48 → q ≠ 49 → q ≠ 50 → I' q = I q) → (∀ j, j < (d + 1) * 12 → I' 48 j = I 48 j ∧ I' 49 j = I 49 j ∧ I' 50 j = I 50 j) → c_lv I' m (d + 1) (c_A' A B (fun m => zb (I 47 m) p)) (c_B' B (fun m => zb (I 47 m) p)) (c_T' T (fun m => zb (I 47 m) p)) → zV X 14 [some (.ref 43), some (.int (nI d)), some (.int (nI p)), some (.int (nI (d * 12))), some (.int (nI ((d + 1) * 12))), some (.int (nI m)), x6] [] (n, K, L, I', J, G) 0 0
  | 0, m, I', x6, hk, o1, o2, o3 => by
    have e : m = as := by omega
    subst e
    have g9 : I' 43 9 = nI m := by rw [o1 43 (by decide) (by decide) (by decide)]; exact h9
    refine zW_ok hj B6_14 14 _ _ _ _ _ b6_14 ?_
    simp only [B6_14, zW, z_wp1, z_ld, z_f0, z_f1, z_f2, z_f3, List.getElem?_cons_zero, List.getElem?_cons_succ, true_and, and_true, Int32.reduceOfInt, z_i10, z_i01, Int32.reduceLT, Int32.reduceLE, Int32.reduceAdd, Int32.reduceSub, z_set, z_set2, z_kil, List.set_cons_zero, List.set_cons_succ, List.take_succ_cons, List.take_zero, List.drop_succ_cons, List.drop_zero, List.reverse_cons, List.reverse_nil, List.nil_append, List.cons_append, List.getD_cons_succ, List.getD_cons_zero, List.getD_nil, List.length_cons, List.length_nil, List.map_cons, List.map_nil, List.sum_cons, List.sum_nil, Nat.reduceAdd, Nat.reduceLeDiff, Value.category, Option.toList, true_or, or_true, z_ua, ↓reduceIte, Nat.reduceEqDiff, eq_self, not_true_eq_false, not_false_eq_true, false_implies, true_implies, Classical.not_not, Nat.le_refl, Nat.zero_le, sK43 hS, g9]
    try dsimp only
    refine ⟨fun _ => ?_, fun q => absurd (nI_le (Nat.le_refl _) (by omega)) q⟩
    refine zW_ok hj B6_150 150 _ _ _ _ _ b6_150 ?_
    simp only [B6_150, zW, z_wp1, z_ld, z_f0, z_f1, z_f2, z_f3, List.getElem?_cons_zero, List.getElem?_cons_succ, true_and, and_true, Int32.reduceOfInt, z_i10, z_i01, Int32.reduceLT, Int32.reduceLE, Int32.reduceAdd, Int32.reduceSub, z_set, z_set2, z_kil, List.set_cons_zero, List.set_cons_succ, List.take_succ_cons, List.take_zero, List.drop_succ_cons, List.drop_zero, List.reverse_cons, List.reverse_nil, List.nil_append, List.cons_append, List.getD_cons_succ, List.getD_cons_zero, List.getD_nil, List.length_cons, List.length_nil, List.map_cons, List.map_nil, List.sum_cons, List.sum_nil, Nat.reduceAdd, Nat.reduceLeDiff, Value.category, Option.toList, true_or, or_true, z_ua, ↓reduceIte, Nat.reduceEqDiff, eq_self, not_true_eq_false, not_false_eq_true, false_implies, true_implies, Classical.not_not, Nat.le_refl, Nat.zero_le, sK43 hS, nI_1]
    try dsimp only
    refine z_callD (c7 (I := I') (J := J) (d := d + 1) (tot := tot) hS g9 has (by omega) o3 (fun g hg => by rw [(o2 g (by omega)).2.2]; exact hto g hg) (fun g hg => ?_)) (by omega) (by omega) (by omega) (Nat.le_of_ble_eq_true rfl) ?_
    · obtain ⟨b1, b2, b3⟩ := hok g hg
      have ht := hT g hg
      refine ⟨b1, ?_, ?_⟩
      · unfold c_A'
        by_cases z : zb (I 47 g) p = true
        · have := ht z
          simp only [z, if_true]
          omega
        · simp only [z]
          simp
          omega
      · unfold c_B' c_T'
        by_cases z : zb (I 47 g) p = true
        · have := ht z
          simp only [z, if_true]
          omega
        · simp only [z]
          simp
          omega
    · simp only [zW, z_wp1, z_ld, z_f0, z_f1, z_f2, z_f3, List.getElem?_cons_zero, List.getElem?_cons_succ, true_and, and_true, Int32.reduceOfInt, z_i10, z_i01, Int32.reduceLT, Int32.reduceLE, Int32.reduceAdd, Int32.reduceSub, z_set, z_set2, z_kil, List.set_cons_zero, List.set_cons_succ, List.take_succ_cons, List.take_zero, List.drop_succ_cons, List.drop_zero, List.reverse_cons, List.reverse_nil, List.nil_append, List.cons_append, List.getD_cons_succ, List.getD_cons_zero, List.getD_nil, List.length_cons, List.length_nil, List.map_cons, List.map_nil, List.sum_cons, List.sum_nil, Nat.reduceAdd, Nat.reduceLeDiff, Value.category, Option.toList, true_or, or_true, z_ua, ↓reduceIte, Nat.reduceEqDiff, eq_self, not_true_eq_false, not_false_eq_true, false_implies, true_implies, Classical.not_not, Nat.le_refl, Nat.zero_le]
      try dsimp only
      exact hQ _ _ ⟨rfl, I', rfl, o1, o2, o3⟩
  | k + 1, m, I', x6, hk, o1, o2, o3 => by
    have g9 : I' 43 9 = nI as := by rw [o1 43 (by decide) (by decide) (by decide)]; exact h9
    have g47 : I' 47 = I 47 := o1 47 (by decide) (by decide) (by decide)
    obtain ⟨a1, a2, a3⟩ := hlv m (by omega)
    obtain ⟨q1, q2, q3⟩ := o2 (d * 12 + m) (by omega)
    rw [← q2] at a1
    rw [← q1] at a2
    rw [← q3] at a3
    obtain ⟨b1, b2, b3⟩ := hok m (by omega)
    have e1 : (nI (d * 12 + m)).toNatClampNeg = d * 12 + m := nI_clamp (by omega)
    have v1 : vp_in (nI (d * 12 + m)) 108 := vp_in_nI (by omega) (by omega)
    have e2 : (nI ((d + 1) * 12 + m)).toNatClampNeg = (d + 1) * 12 + m := nI_clamp (by omega)
    have v2 : vp_in (nI ((d + 1) * 12 + m)) 108 := vp_in_nI (by omega) (by omega)
    have e3 : (nI m).toNatClampNeg = m := nI_clamp (by omega)
    have v3 : vp_in (nI m) 12 := vp_in_nI (by omega) (by omega)
    have ih := c6_loop hS hj hd1 hm hs h9 has hd hp hlv hto hok hT hQ k (m + 1)
    generalize hh : (fun m => zb (I 47 m) p) = h at *
    have hhm : h m = zb (I 47 m) p := by rw [← hh]
    -- the three rows written
    have fin : ∀ (b t : Nat) (y6 : Int32), b = c_B' B h m → t = c_T' T h m → zV X 14 [some (.ref 43), some (.int (nI d)), some (.int (nI p)), some (.int (nI (d * 12))), some (.int (nI ((d + 1) * 12))), some (.int (nI (m + 1))), some (.int y6)] [] (n, K, L, z_u (z_u (z_u I' 48 ((d + 1) * 12 + m) (nI b)) 49 ((d + 1) * 12 + m) (nI (max (A m) b))) 50 ((d + 1) * 12 + m) (nI t), J, G) 0 0 := by
      intro b t y6 hb ht
      refine ih _ _ (by omega) (fun q x y z => by rw [z_u_ne z, z_u_ne y, z_u_ne x]; exact o1 q x y z) (fun j hj' => ?_) (fun g hg => ?_)
      · obtain ⟨r1, r2, r3⟩ := o2 j hj'
        refine ⟨?_, ?_, ?_⟩
        · rw [z_u_ne (by decide), z_u_ne (by decide), z_u_at, if_neg (by omega)]; exact r1
        · rw [z_u_ne (by decide), z_u_at, if_neg (by omega)]; exact r2
        · rw [z_u_at, if_neg (by omega), z_u_ne (by decide), z_u_ne (by decide)]; exact r3
      · have f48 : z_u (z_u (z_u I' 48 ((d + 1) * 12 + m) (nI b)) 49 ((d + 1) * 12 + m) (nI (max (A m) b))) 50 ((d + 1) * 12 + m) (nI t) 48 ((d + 1) * 12 + g) = if g = m then nI b else I' 48 ((d + 1) * 12 + g) := by
          rw [z_u_ne (by decide), z_u_ne (by decide), z_u_at]
          by_cases z : g = m
          · rw [if_pos (by omega), if_pos z]
          · rw [if_neg (by omega), if_neg z]
        have f49 : z_u (z_u (z_u I' 48 ((d + 1) * 12 + m) (nI b)) 49 ((d + 1) * 12 + m) (nI (max (A m) b))) 50 ((d + 1) * 12 + m) (nI t) 49 ((d + 1) * 12 + g) = if g = m then nI (max (A m) b) else I' 49 ((d + 1) * 12 + g) := by
          rw [z_u_ne (by decide), z_u_at]
          by_cases z : g = m
          · rw [if_pos (by omega), if_pos z]
          · rw [if_neg (by omega), if_neg z, z_u_ne (by decide)]
        have f50 : z_u (z_u (z_u I' 48 ((d + 1) * 12 + m) (nI b)) 49 ((d + 1) * 12 + m) (nI (max (A m) b))) 50 ((d + 1) * 12 + m) (nI t) 50 ((d + 1) * 12 + g) = if g = m then nI t else I' 50 ((d + 1) * 12 + g) := by
          rw [z_u_at]
          by_cases z : g = m
          · rw [if_pos (by omega), if_pos z]
          · rw [if_neg (by omega), if_neg z, z_u_ne (by decide), z_u_ne (by decide)]
        rw [f48, f49, f50]
        by_cases z : g = m
        · rw [if_pos z, if_pos z, if_pos z, z, hb, ht]
          exact ⟨rfl, rfl, rfl⟩
        · rw [if_neg z, if_neg z, if_neg z]
          exact o3 g (by omega)
    have tail : ∀ (b : Nat) (x6 : Int32), b ≤ 17 → (x6 = 0 ∨ x6 = 1) → (∀ t, t = c_T' T h m → zV X 14 [some (.ref 43), some (.int (nI d)), some (.int (nI p)), some (.int (nI (d * 12))), some (.int (nI ((d + 1) * 12))), some (.int (nI (m + 1))), some (.int x6)] [] (n, K, L, z_u (z_u (z_u I' 48 ((d + 1) * 12 + m) (nI b)) 49 ((d + 1) * 12 + m) (nI (max (A m) b))) 50 ((d + 1) * 12 + m) (nI t), J, G) 0 0) → (x6 = 0 → h m = false) → (x6 = 1 → h m = true) → zV X 73 [some (.ref 43), some (.int (nI d)), some (.int (nI p)), some (.int (nI (d * 12))), some (.int (nI ((d + 1) * 12))), some (.int (nI m)), some (.int x6)] [.int (nI b), .int (nI ((d + 1) * 12 + m)), .ref 48] (n, K, L, I', J, G) 0 0 := by
      intro b x6 hb hx kk h0 h1
      have nd : ¬ d * 12 + m = (d + 1) * 12 + m := by omega
      have mx := nI_max (a := A m) (b := b) (by omega) (by omega)
      have r50 : z_u (z_u I' 48 ((d + 1) * 12 + m) (nI b)) 49 ((d + 1) * 12 + m) (nI (max (A m) b)) 50 (d * 12 + m) = nI (T m) := by
        rw [z_u_ne (by decide), z_u_ne (by decide)]; exact a3
      have r49 : z_u I' 48 ((d + 1) * 12 + m) (nI b) 49 (d * 12 + m) = nI (A m) := by rw [z_u_ne (by decide)]; exact a1
      have r48 : z_u I' 48 ((d + 1) * 12 + m) (nI b) 48 ((d + 1) * 12 + m) = nI b := by rw [z_u_at, if_pos rfl]
      refine zW_ok hj B6_73 73 _ _ _ _ _ b6_73 ?_
      simp only [B6_73, zW, z_wp1, z_ld, z_f0, z_f1, z_f2, z_f3, List.getElem?_cons_zero, List.getElem?_cons_succ, true_and, and_true, Int32.reduceOfInt, z_i10, z_i01, Int32.reduceLT, Int32.reduceLE, Int32.reduceAdd, Int32.reduceSub, z_set, z_set2, z_kil, List.set_cons_zero, List.set_cons_succ, List.take_succ_cons, List.take_zero, List.drop_succ_cons, List.drop_zero, List.reverse_cons, List.reverse_nil, List.nil_append, List.cons_append, List.getD_cons_succ, List.getD_cons_zero, List.getD_nil, List.length_cons, List.length_nil, List.map_cons, List.map_nil, List.sum_cons, List.sum_nil, Nat.reduceAdd, Nat.reduceLeDiff, Value.category, Option.toList, true_or, or_true, z_ua, ↓reduceIte, Nat.reduceEqDiff, eq_self, not_true_eq_false, not_false_eq_true, false_implies, true_implies, Classical.not_not, Nat.le_refl, Nat.zero_le, z_hI, sK43 hS, sG43_10 hS, sK48 hS, sL48 hS, sG43_11 hS, sK49 hS, sL49 hS, sG43_12 hS, sK50 hS, sL50 hS, nI_add, v1, v2]
      try dsimp only
      rw [e1, e2, a1, mx]
      refine ⟨by omega, ?_⟩
      rcases hx with hx | hx
      · subst hx
        refine ⟨fun _ => ?_, fun q => absurd rfl q⟩
        refine zW_ok hj B6_134 134 _ _ _ _ _ b6_134 ?_
        simp only [B6_134, zW, z_wp1, z_ld, z_f0, z_f1, z_f2, z_f3, List.getElem?_cons_zero, List.getElem?_cons_succ, true_and, and_true, Int32.reduceOfInt, z_i10, z_i01, Int32.reduceLT, Int32.reduceLE, Int32.reduceAdd, Int32.reduceSub, z_set, z_set2, z_kil, List.set_cons_zero, List.set_cons_succ, List.take_succ_cons, List.take_zero, List.drop_succ_cons, List.drop_zero, List.reverse_cons, List.reverse_nil, List.nil_append, List.cons_append, List.getD_cons_succ, List.getD_cons_zero, List.getD_nil, List.length_cons, List.length_nil, List.map_cons, List.map_nil, List.sum_cons, List.sum_nil, Nat.reduceAdd, Nat.reduceLeDiff, Value.category, Option.toList, true_or, or_true, z_ua, ↓reduceIte, Nat.reduceEqDiff, eq_self, not_true_eq_false, not_false_eq_true, false_implies, true_implies, Classical.not_not, Nat.le_refl, Nat.zero_le, sK43 hS, sG43_12 hS, sK50 hS, sL50 hS, nI_add, e1, v1, a3]
        try dsimp only
        refine zW_ok hj B6_143 143 _ _ _ _ _ b6_143 ?_
        simp only [B6_143, zW, z_wp1, z_ld, z_f0, z_f1, z_f2, z_f3, List.getElem?_cons_zero, List.getElem?_cons_succ, true_and, and_true, Int32.reduceOfInt, z_i10, z_i01, Int32.reduceLT, Int32.reduceLE, Int32.reduceAdd, Int32.reduceSub, z_set, z_set2, z_kil, List.set_cons_zero, List.set_cons_succ, List.take_succ_cons, List.take_zero, List.drop_succ_cons, List.drop_zero, List.reverse_cons, List.reverse_nil, List.nil_append, List.cons_append, List.getD_cons_succ, List.getD_cons_zero, List.getD_nil, List.length_cons, List.length_nil, List.map_cons, List.map_nil, List.sum_cons, List.sum_nil, Nat.reduceAdd, Nat.reduceLeDiff, Value.category, Option.toList, true_or, or_true, z_ua, ↓reduceIte, Nat.reduceEqDiff, eq_self, not_true_eq_false, not_false_eq_true, false_implies, true_implies, Classical.not_not, Nat.le_refl, Nat.zero_le, sK43 hS, sG43_12 hS, sK50 hS, sL50 hS, nI_add, v2, e2, nI_1]
        try dsimp only
        exact kk (T m) (by rw [c_T', h0 rfl]; rfl)
      · subst hx
        refine ⟨fun q => absurd q (by decide), fun _ => ?_⟩
        have ht := hT m (by omega) (by rw [← hhm]; exact h1 rfl)
        have es : nI (T m) - 1 = nI (T m - 1) := by rw [← nI_pred (T m - 1), show T m - 1 + 1 = T m by omega]
        rw [a3, es]
        refine zW_ok hj B6_143 143 _ _ _ _ _ b6_143 ?_
        simp only [B6_143, zW, z_wp1, z_ld, z_f0, z_f1, z_f2, z_f3, List.getElem?_cons_zero, List.getElem?_cons_succ, true_and, and_true, Int32.reduceOfInt, z_i10, z_i01, Int32.reduceLT, Int32.reduceLE, Int32.reduceAdd, Int32.reduceSub, z_set, z_set2, z_kil, List.set_cons_zero, List.set_cons_succ, List.take_succ_cons, List.take_zero, List.drop_succ_cons, List.drop_zero, List.reverse_cons, List.reverse_nil, List.nil_append, List.cons_append, List.getD_cons_succ, List.getD_cons_zero, List.getD_nil, List.length_cons, List.length_nil, List.map_cons, List.map_nil, List.sum_cons, List.sum_nil, Nat.reduceAdd, Nat.reduceLeDiff, Value.category, Option.toList, true_or, or_true, z_ua, ↓reduceIte, Nat.reduceEqDiff, eq_self, not_true_eq_false, not_false_eq_true, false_implies, true_implies, Classical.not_not, Nat.le_refl, Nat.zero_le, sK43 hS, sG43_12 hS, sK50 hS, sL50 hS, nI_add, v2, e2, nI_1]
        try dsimp only
        exact kk (T m - 1) (by rw [c_T', h1 rfl]; rfl)
    refine zW_ok hj B6_14 14 _ _ _ _ _ b6_14 ?_
    simp only [B6_14, zW, z_wp1, z_ld, z_f0, z_f1, z_f2, z_f3, List.getElem?_cons_zero, List.getElem?_cons_succ, true_and, and_true, Int32.reduceOfInt, z_i10, z_i01, Int32.reduceLT, Int32.reduceLE, Int32.reduceAdd, Int32.reduceSub, z_set, z_set2, z_kil, List.set_cons_zero, List.set_cons_succ, List.take_succ_cons, List.take_zero, List.drop_succ_cons, List.drop_zero, List.reverse_cons, List.reverse_nil, List.nil_append, List.cons_append, List.getD_cons_succ, List.getD_cons_zero, List.getD_nil, List.length_cons, List.length_nil, List.map_cons, List.map_nil, List.sum_cons, List.sum_nil, Nat.reduceAdd, Nat.reduceLeDiff, Value.category, Option.toList, true_or, or_true, z_ua, ↓reduceIte, Nat.reduceEqDiff, eq_self, not_true_eq_false, not_false_eq_true, false_implies, true_implies, Classical.not_not, Nat.le_refl, Nat.zero_le, sK43 hS, g9, sG43_8 hS, sK47 hS, sL47 hS, e3, v3, g47]
    try dsimp only
    refine ⟨fun q => absurd q (nI_ge (by omega) (by omega)), fun _ => ⟨fun hz => ?_, fun hz => ?_⟩⟩
    · have hf : h m = false := by rw [hhm]; exact (zb_get0 (by omega)).mp hz
      refine zW_ok hj B6_41 41 _ _ _ _ _ b6_41 ?_
      simp only [B6_41, zW, z_wp1, z_ld, z_f0, z_f1, z_f2, z_f3, List.getElem?_cons_zero, List.getElem?_cons_succ, true_and, and_true, Int32.reduceOfInt, z_i10, z_i01, Int32.reduceLT, Int32.reduceLE, Int32.reduceAdd, Int32.reduceSub, z_set, z_set2, z_kil, List.set_cons_zero, List.set_cons_succ, List.take_succ_cons, List.take_zero, List.drop_succ_cons, List.drop_zero, List.reverse_cons, List.reverse_nil, List.nil_append, List.cons_append, List.getD_cons_succ, List.getD_cons_zero, List.getD_nil, List.length_cons, List.length_nil, List.map_cons, List.map_nil, List.sum_cons, List.sum_nil, Nat.reduceAdd, Nat.reduceLeDiff, Value.category, Option.toList, true_or, or_true, z_ua, ↓reduceIte, Nat.reduceEqDiff, eq_self, not_true_eq_false, not_false_eq_true, false_implies, true_implies, Classical.not_not, Nat.le_refl, Nat.zero_le]
      try dsimp only
      refine zW_ok hj B6_42 42 _ _ _ _ _ b6_42 ?_
      simp only [B6_42, zW, z_wp1, z_ld, z_f0, z_f1, z_f2, z_f3, List.getElem?_cons_zero, List.getElem?_cons_succ, true_and, and_true, Int32.reduceOfInt, z_i10, z_i01, Int32.reduceLT, Int32.reduceLE, Int32.reduceAdd, Int32.reduceSub, z_set, z_set2, z_kil, List.set_cons_zero, List.set_cons_succ, List.take_succ_cons, List.take_zero, List.drop_succ_cons, List.drop_zero, List.reverse_cons, List.reverse_nil, List.nil_append, List.cons_append, List.getD_cons_succ, List.getD_cons_zero, List.getD_nil, List.length_cons, List.length_nil, List.map_cons, List.map_nil, List.sum_cons, List.sum_nil, Nat.reduceAdd, Nat.reduceLeDiff, Value.category, Option.toList, true_or, or_true, z_ua, ↓reduceIte, Nat.reduceEqDiff, eq_self, not_true_eq_false, not_false_eq_true, false_implies, true_implies, Classical.not_not, Nat.le_refl, Nat.zero_le, sK43 hS, sG43_10 hS, sK48 hS, sL48 hS, nI_add]
      try dsimp only
      refine zW_ok hj B6_72 72 _ _ _ _ _ b6_72 ?_
      simp only [B6_72, zW, z_wp1, z_ld, z_f0, z_f1, z_f2, z_f3, List.getElem?_cons_zero, List.getElem?_cons_succ, true_and, and_true, Int32.reduceOfInt, z_i10, z_i01, Int32.reduceLT, Int32.reduceLE, Int32.reduceAdd, Int32.reduceSub, z_set, z_set2, z_kil, List.set_cons_zero, List.set_cons_succ, List.take_succ_cons, List.take_zero, List.drop_succ_cons, List.drop_zero, List.reverse_cons, List.reverse_nil, List.nil_append, List.cons_append, List.getD_cons_succ, List.getD_cons_zero, List.getD_nil, List.length_cons, List.length_nil, List.map_cons, List.map_nil, List.sum_cons, List.sum_nil, Nat.reduceAdd, Nat.reduceLeDiff, Value.category, Option.toList, true_or, or_true, z_ua, ↓reduceIte, Nat.reduceEqDiff, eq_self, not_true_eq_false, not_false_eq_true, false_implies, true_implies, Classical.not_not, Nat.le_refl, Nat.zero_le]
      try dsimp only
      have := tail 0 0 (by omega) (Or.inl rfl) (fun t ht => fin 0 t 0 (by rw [c_B', hf]; rfl) ht) (fun _ => hf) (fun q => absurd q (by decide))
      exact this
    · have hf : h m = true := by
        rw [hhm]
        cases z : zb (I 47 m) p with
        | true => rfl
        | false => exact absurd ((zb_get0 (by omega)).mpr z) hz
      refine zW_ok hj B6_42 42 _ _ _ _ _ b6_42 ?_
      simp only [B6_42, zW, z_wp1, z_ld, z_f0, z_f1, z_f2, z_f3, List.getElem?_cons_zero, List.getElem?_cons_succ, true_and, and_true, Int32.reduceOfInt, z_i10, z_i01, Int32.reduceLT, Int32.reduceLE, Int32.reduceAdd, Int32.reduceSub, z_set, z_set2, z_kil, List.set_cons_zero, List.set_cons_succ, List.take_succ_cons, List.take_zero, List.drop_succ_cons, List.drop_zero, List.reverse_cons, List.reverse_nil, List.nil_append, List.cons_append, List.getD_cons_succ, List.getD_cons_zero, List.getD_nil, List.length_cons, List.length_nil, List.map_cons, List.map_nil, List.sum_cons, List.sum_nil, Nat.reduceAdd, Nat.reduceLeDiff, Value.category, Option.toList, true_or, or_true, z_ua, ↓reduceIte, Nat.reduceEqDiff, eq_self, not_true_eq_false, not_false_eq_true, false_implies, true_implies, Classical.not_not, Nat.le_refl, Nat.zero_le, sK43 hS, sG43_10 hS, sK48 hS, sL48 hS, nI_add, v1, e1, a2, nI_1]
      try dsimp only
      exact tail (B m + 1) 1 (by omega) (Or.inr rfl) (fun t ht => fin (B m + 1) t 1 (by rw [c_B', hf]; rfl) ht) (fun q => absurd q (by decide)) (fun _ => hf)
/-- lay -/
theorem c6 (hS : SS K L G) (h9 : I 43 9 = nI as) (has : as ≤ 12) (hd7 : d ≤ 7) (hp : p < 8) (hlv : c_lv I as d A B T) (hto : ∀ m, m < as → I 50 m = nI (tot m)) (hok : c_ok as A B T tot) (hT : ∀ m, m < as → zb (I 47 m) p = true → 1 ≤ T m) : z_Ctr l 2 6 [.ref 43, .int (nI d), .int (nI p)] (n, K, L, I, J, G) 0 0 (fun r h' => r = some (.int (nI (c_sm (c_A' A B (fun m => zb (I 47 m) p)) (c_B' B (fun m => zb (I 47 m) p)) (c_T' T (fun m => zb (I 47 m) p)) tot as))) ∧ ∃ I', h' = (n, K, L, I', J, G) ∧ (∀ q, q ≠ 48 → q ≠ 49 → q ≠ 50 → I' q = I q) ∧ (∀ j, j < (d + 1) * 12 → I' 48 j = I 48 j ∧ I' 49 j = I 49 j ∧ I' 50 j = I 50 j) ∧ c_lv I' as (d + 1) (c_A' A B (fun m => zb (I 47 m) p)) (c_B' B (fun m => zb (I 47 m) p)) (c_T' T (fun m => zb (I 47 m) p))) := by
  have e12 : nI d * 12 = nI (d * 12) := nI_mul d 12
  have e13 : nI (d * 12) + 12 = nI ((d + 1) * 12) := by
    rw [show (12 : Int32) = nI 12 from rfl, nI_add]
    congr 1
    omega
  refine z_ctr (by decide) (by decide +kernel) (Nat.le_of_ble_eq_true rfl) (by decide +kernel) (fun X hl hj hd hm hs hsc hQ => ?_)
  show zV X 0 [some (.ref 43), some (.int (nI d)), some (.int (nI p)), none, none, none, none] [] _ 0 0
  refine zW_ok hj B6_0 0 _ _ _ _ _ b6_0 ?_
  simp only [B6_0, zW, z_wp1, z_ld, z_f0, z_f1, z_f2, z_f3, List.getElem?_cons_zero, List.getElem?_cons_succ, true_and, and_true, Int32.reduceOfInt, z_i10, z_i01, Int32.reduceLT, Int32.reduceLE, Int32.reduceAdd, Int32.reduceSub, z_set, z_set2, z_kil, List.set_cons_zero, List.set_cons_succ, List.take_succ_cons, List.take_zero, List.drop_succ_cons, List.drop_zero, List.reverse_cons, List.reverse_nil, List.nil_append, List.cons_append, List.getD_cons_succ, List.getD_cons_zero, List.getD_nil, List.length_cons, List.length_nil, List.map_cons, List.map_nil, List.sum_cons, List.sum_nil, Nat.reduceAdd, Nat.reduceLeDiff, Value.category, Option.toList, true_or, or_true, z_ua, ↓reduceIte, Nat.reduceEqDiff, eq_self, not_true_eq_false, not_false_eq_true, false_implies, true_implies, Classical.not_not, Nat.le_refl, Nat.zero_le, e12, e13]
  try dsimp only
  exact c6_loop hS hj hd hm hs h9 has hd7 hp hlv hto hok hT hQ as 0 I none (by omega) (fun _ _ _ _ => rfl) (fun _ _ => ⟨rfl, rfl, rfl⟩) (fun g hg => by omega)
end CRS5
