/-! The public methods: place -/
section PLACE
variable {l : Launch} {n : Nat} {K L : Nat → Nat} {I : Nat → Nat → Int32} {J : Nat → Nat → Int64} {G : Nat → Nat → Value} {M : Nat → Nat → Int32} {c F N : Nat} {tr : Nat → (Int32 → Int32) → Int32} {cd : Nat} {D : Nat → Nat} {ch rr : Nat}
theorem d142a (hx : XI n K L I J G M c F N tr cd D ch rr) (hr : rr < 600) {mode marks : Int32} {s k i : Nat} (hmd : mode = 0 ∨ mode = 1) (hs2 : s < 2 ^ F) (hmk : m_isM N marks) (hk : k < 2 ^ 63) (hi' : i < s_rk (zb (nI s)) F) : ∃ mc ms, (mc ≤ 4 ∧ ms ≤ 400000) ∧ z_Ctr l 32 142 [.ref 5, .int mode, .int (nI s), .int marks, .long (lN k), .int (nI i)] (n, K, L, I, J, G) mc ms (x_po n I J M c F N tr (rr + 1) (x_u L D + ms) (.int (if k < mV (mHo M c F N tr mode marks s) F N s 0 then mPl (mHo M c F N tr mode marks s) F N s i 0 k else -1))) := by
  have hS : SS K L G := hx.S
  obtain ⟨f1, f2, f3, f4⟩ := hx.fn
  have h16 : 2 ^ F ≤ 2 ^ 16 := Nat.pow_le_pow_right (by omega) f2
  have hset : m_isF F (nI s) := ⟨nI_pos' (by omega), nI_lt hs2 (by omega)⟩
  have hg := x_g73_le L I D ch s mode marks
  have ek := e_rk f2 hs2
  refine ⟨x_g73 L I D ch s mode marks, 2 ^ s_rk (zb (nI s)) 16 * x_g73 L I D ch s mode marks, ⟨by omega, by have := z_pwg (s_rk_n (zb (nI s)) 16) hg; omega⟩, ?_⟩
  refine z_ctr (by decide) (by decide +kernel) (Nat.le_of_ble_eq_true rfl) (by decide +kernel) (fun X hl hj hd hm hs hsc hQ => ?_)
  show zV X 0 [some (.ref 5), some (.int mode), some (.int (nI s)), some (.int marks), some (.long (lN k)), none, some (.int (nI i))] [] _ 0 0
  subst hl
  refine zW_ok hj B142_0 0 _ _ _ _ _ b142_0 ?_
  simp only [B142_0, zW, z_wp1, z_ld, z_f0, z_f1, z_f2, z_f3, List.getElem?_cons_zero, List.getElem?_cons_succ, true_and, and_true, Int32.reduceOfInt, z_i10, z_i01, Int32.reduceLT, Int32.reduceLE, Int32.reduceAdd, Int32.reduceSub, z_set, z_set2, z_kil, List.set_cons_zero, List.set_cons_succ, List.take_succ_cons, List.take_zero, List.drop_succ_cons, List.drop_zero, List.reverse_cons, List.reverse_nil, List.nil_append, List.cons_append, List.getD_cons_succ, List.getD_cons_zero, List.getD_nil, List.length_cons, List.length_nil, List.map_cons, List.map_nil, List.sum_cons, List.sum_nil, Nat.reduceAdd, Nat.reduceLeDiff, Value.category, Option.toList, true_or, or_true, z_ua, ↓reduceIte, Nat.reduceEqDiff, eq_self, not_true_eq_false, not_false_eq_true, false_implies, true_implies, Classical.not_not, Nat.le_refl, Nat.zero_le]
  try dsimp only
  refine z_callD (c155 (h := (n, K, L, I, J, G)) mode) (by omega) (by omega) (by omega) (Nat.le_of_ble_eq_true rfl) ?_
  try simp only [zW, z_wp1, z_ld, z_f0, z_f1, z_f2, z_f3, List.getElem?_cons_zero, List.getElem?_cons_succ, true_and, and_true, Int32.reduceOfInt, z_i10, z_i01, Int32.reduceLT, Int32.reduceLE, Int32.reduceAdd, Int32.reduceSub, z_set, z_set2, z_kil, List.set_cons_zero, List.set_cons_succ, List.take_succ_cons, List.take_zero, List.drop_succ_cons, List.drop_zero, List.reverse_cons, List.reverse_nil, List.nil_append, List.cons_append, List.getD_cons_succ, List.getD_cons_zero, List.getD_nil, List.length_cons, List.length_nil, List.map_cons, List.map_nil, List.sum_cons, List.sum_nil, Nat.reduceAdd, Nat.reduceLeDiff, Value.category, Option.toList, true_or, or_true, z_ua, ↓reduceIte, Nat.reduceEqDiff, eq_self, not_true_eq_false, not_false_eq_true, false_implies, true_implies, Classical.not_not, Nat.le_refl, Nat.zero_le, z_b1 hmd, sK5 hS, sG5_1 hS, sK10 hS]
  try dsimp only
  refine z_callD (c87y hx hset) (by omega) (by omega) (by omega) (Nat.le_of_ble_eq_true rfl) ?_
  try simp only [zW, z_wp1, z_ld, z_f0, z_f1, z_f2, z_f3, List.getElem?_cons_zero, List.getElem?_cons_succ, true_and, and_true, Int32.reduceOfInt, z_i10, z_i01, Int32.reduceLT, Int32.reduceLE, Int32.reduceAdd, Int32.reduceSub, z_set, z_set2, z_kil, List.set_cons_zero, List.set_cons_succ, List.take_succ_cons, List.take_zero, List.drop_succ_cons, List.drop_zero, List.reverse_cons, List.reverse_nil, List.nil_append, List.cons_append, List.getD_cons_succ, List.getD_cons_zero, List.getD_nil, List.length_cons, List.length_nil, List.map_cons, List.map_nil, List.sum_cons, List.sum_nil, Nat.reduceAdd, Nat.reduceLeDiff, Value.category, Option.toList, true_or, or_true, z_ua, ↓reduceIte, Nat.reduceEqDiff, eq_self, not_true_eq_false, not_false_eq_true, false_implies, true_implies, Classical.not_not, Nat.le_refl, Nat.zero_le, sK5 hS, sG5_1 hS, sK10 hS]
  try dsimp only
  refine z_callD (c88y hx hmk) (by omega) (by omega) (by omega) (Nat.le_of_ble_eq_true rfl) ?_
  try simp only [zW, z_wp1, z_ld, z_f0, z_f1, z_f2, z_f3, List.getElem?_cons_zero, List.getElem?_cons_succ, true_and, and_true, Int32.reduceOfInt, z_i10, z_i01, Int32.reduceLT, Int32.reduceLE, Int32.reduceAdd, Int32.reduceSub, z_set, z_set2, z_kil, List.set_cons_zero, List.set_cons_succ, List.take_succ_cons, List.take_zero, List.drop_succ_cons, List.drop_zero, List.reverse_cons, List.reverse_nil, List.nil_append, List.cons_append, List.getD_cons_succ, List.getD_cons_zero, List.getD_nil, List.length_cons, List.length_nil, List.map_cons, List.map_nil, List.sum_cons, List.sum_nil, Nat.reduceAdd, Nat.reduceLeDiff, Value.category, Option.toList, true_or, or_true, z_ua, ↓reduceIte, Nat.reduceEqDiff, eq_self, not_true_eq_false, not_false_eq_true, false_implies, true_implies, Classical.not_not, Nat.le_refl, Nat.zero_le]
  try dsimp only
  refine zW_ok hj B142_31 31 _ _ _ _ _ b142_31 ?_
  simp only [B142_31, zW, z_wp1, z_ld, z_f0, z_f1, z_f2, z_f3, List.getElem?_cons_zero, List.getElem?_cons_succ, true_and, and_true, Int32.reduceOfInt, z_i10, z_i01, Int32.reduceLT, Int32.reduceLE, Int32.reduceAdd, Int32.reduceSub, z_set, z_set2, z_kil, List.set_cons_zero, List.set_cons_succ, List.take_succ_cons, List.take_zero, List.drop_succ_cons, List.drop_zero, List.reverse_cons, List.reverse_nil, List.nil_append, List.cons_append, List.getD_cons_succ, List.getD_cons_zero, List.getD_nil, List.length_cons, List.length_nil, List.map_cons, List.map_nil, List.sum_cons, List.sum_nil, Nat.reduceAdd, Nat.reduceLeDiff, Value.category, Option.toList, true_or, or_true, z_ua, ↓reduceIte, Nat.reduceEqDiff, eq_self, not_true_eq_false, not_false_eq_true, false_implies, true_implies, Classical.not_not, Nat.le_refl, Nat.zero_le, sK5 hS, sG5_1 hS, sK10 hS]
  try dsimp only
  refine z_callQ (c96x hx) (by omega) (by omega) (by omega) (Nat.le_of_ble_eq_true rfl) ?_
  rintro r h' ⟨rfl, I1, rfl, hx1, hI, hrow⟩
  have eg : x_g73 L I1 D ch s mode marks = x_g73 L I D ch s mode marks := by unfold x_g73; rw [hI 38 (by omega)]
  simp only [zW, z_wp1, z_ld, z_f0, z_f1, z_f2, z_f3, List.getElem?_cons_zero, List.getElem?_cons_succ, true_and, and_true, Int32.reduceOfInt, z_i10, z_i01, Int32.reduceLT, Int32.reduceLE, Int32.reduceAdd, Int32.reduceSub, z_set, z_set2, z_kil, List.set_cons_zero, List.set_cons_succ, List.take_succ_cons, List.take_zero, List.drop_succ_cons, List.drop_zero, List.reverse_cons, List.reverse_nil, List.nil_append, List.cons_append, List.getD_cons_succ, List.getD_cons_zero, List.getD_nil, List.length_cons, List.length_nil, List.map_cons, List.map_nil, List.sum_cons, List.sum_nil, Nat.reduceAdd, Nat.reduceLeDiff, Value.category, Option.toList, true_or, or_true, z_ua, ↓reduceIte, Nat.reduceEqDiff, eq_self, not_true_eq_false, not_false_eq_true, false_implies, true_implies, Classical.not_not, Nat.le_refl, Nat.zero_le, sK5 hS, sG5_1 hS, sK10 hS, sG5_4 hS, sK38 hS]
  try dsimp only
  refine z_callA (c73x (l := X.1) hx1 hr hrow hmd hs2) (by omega) (by rw [eg]; omega) (by rw [eg]; omega) (Nat.le_of_ble_eq_true rfl) ?_
  rintro r h' ⟨rfl, n', K', L', I2, J', G', D', fs, bc, R, rfl, hx2, u1, u2, u3, hR, hi, pz, hX, mm⟩
  rw [eg] at u1
  rw [eg]
  have hS := hx2.S
  have hp8 : D' 8 = 42 ∨ 103 ≤ D' 8 := hX.2.2.2.2.2.1
  simp only [zW, z_wp1, z_ld, z_f0, z_f1, z_f2, z_f3, List.getElem?_cons_zero, List.getElem?_cons_succ, true_and, and_true, Int32.reduceOfInt, z_i10, z_i01, Int32.reduceLT, Int32.reduceLE, Int32.reduceAdd, Int32.reduceSub, z_set, z_set2, z_kil, List.set_cons_zero, List.set_cons_succ, List.take_succ_cons, List.take_zero, List.drop_succ_cons, List.drop_zero, List.reverse_cons, List.reverse_nil, List.nil_append, List.cons_append, List.getD_cons_succ, List.getD_cons_zero, List.getD_nil, List.length_cons, List.length_nil, List.map_cons, List.map_nil, List.sum_cons, List.sum_nil, Nat.reduceAdd, Nat.reduceLeDiff, Value.category, Option.toList, true_or, or_true, z_ua, ↓reduceIte, Nat.reduceEqDiff, eq_self, not_true_eq_false, not_false_eq_true, false_implies, true_implies, Classical.not_not, Nat.le_refl, Nat.zero_le, sK5 hS, sG5_4 hS, sK38 hS]
  try dsimp only
  refine z_callQ (c80a (l := X.1) (n := n') hS hX mm hk (i := i) (by rw [ek]; exact hi')) (by omega) (by omega) (by omega) (Nat.le_of_ble_eq_true rfl) ?_
  rintro r h' ⟨rfl, J3, rfl, o3, mm3⟩
  have hx3 := hx2.sm hi hR pz hX o3 mm3
  have ev : mV (mHo M c F N tr mode marks s) F N s 0 = xV I2 (s_rk (zb (nI s)) F) bc 0 := e_V (rm := fun g => m_row (mTv M c tr) mode (nI g) N) f2 f4 hs2 (fun g _ i _ => rfl) (hmk.b_in f4) pz
  have ea : k < mV (mHo M c F N tr mode marks s) F N s 0 → mPl (mHo M c F N tr mode marks s) F N s i 0 k = I2 39 (s_at (s_rk (zb (nI s)) F) (s_B bc (I2 40)) i (xU (s_rk (zb (nI s)) F) 0) k) := fun q => e_at (rm := fun g => m_row (mTv M c tr) mode (nI g) N) f2 f4 hs2 (fun g _ i _ => rfl) (hmk.b_in f4) pz q hi'
  have eq : (if k < xV I2 (s_rk (zb (nI s)) 16) bc 0 then I2 39 (s_at (s_rk (zb (nI s)) 16) (s_B bc (I2 40)) i (xU (s_rk (zb (nI s)) 16) 0) k) else -1) = if k < mV (mHo M c F N tr mode marks s) F N s 0 then mPl (mHo M c F N tr mode marks s) F N s i 0 k else -1 := by
    rw [ek]
    by_cases z : k < mV (mHo M c F N tr mode marks s) F N s 0
    · rw [if_pos z, ea z, if_pos (by rw [← ev]; exact z)]
    · rw [if_neg z, if_neg (by rw [← ev]; exact z)]
  rw [eq]
  simp only [zW, z_wp1, z_ld, z_f0, z_f1, z_f2, z_f3, List.getElem?_cons_zero, List.getElem?_cons_succ, true_and, and_true, Int32.reduceOfInt, z_i10, z_i01, Int32.reduceLT, Int32.reduceLE, Int32.reduceAdd, Int32.reduceSub, z_set, z_set2, z_kil, List.set_cons_zero, List.set_cons_succ, List.take_succ_cons, List.take_zero, List.drop_succ_cons, List.drop_zero, List.reverse_cons, List.reverse_nil, List.nil_append, List.cons_append, List.getD_cons_succ, List.getD_cons_zero, List.getD_nil, List.length_cons, List.length_nil, List.map_cons, List.map_nil, List.sum_cons, List.sum_nil, Nat.reduceAdd, Nat.reduceLeDiff, Value.category, Option.toList, true_or, or_true, z_ua, ↓reduceIte, Nat.reduceEqDiff, eq_self, not_true_eq_false, not_false_eq_true, false_implies, true_implies, Classical.not_not, Nat.le_refl, Nat.zero_le]
  try dsimp only
  exact hQ _ _ ⟨rfl, n', K', L', I2, J3, G', cd, D', ch, rfl, hx3, u1, fun q x y => ⟨by rw [(u2 q x y).1, hI q (by omega)], by rw [o3 q (by omega), (u2 q x y).2]⟩, u3⟩
end PLACE
