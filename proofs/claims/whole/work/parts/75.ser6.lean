/-! Rows of finds of the class: what may stand next, and in how many ways -/
theorem s_rk_ext {b : Nat → Bool} {m : Nat} (h : ∀ p, m ≤ p → b p = false) : ∀ {n : Nat}, m ≤ n → s_rk b n = s_rk b m
  | 0, hn => by rw [show m = 0 by omega]
  | n + 1, hn => by
    by_cases e : m = n + 1
    · rw [e]
    · rw [s_rk, h n (by omega), s_rk_ext h (n := n) (by omega)]
      rfl
theorem s_rk_congr {b b' : Nat → Bool} : ∀ {n : Nat}, (∀ p, p < n → b p = b' p) → s_rk b n = s_rk b' n
  | 0, _ => rfl
  | n + 1, h => by rw [s_rk, s_rk, s_rk_congr (fun p hp => h p (by omega)), h n (by omega)]
theorem s_rk_le {b b' : Nat → Bool} : ∀ {n : Nat}, (∀ q, q < n → b' q = true → b q = true) → s_rk b' n ≤ s_rk b n
  | 0, _ => Nat.le_refl _
  | n + 1, h => by
    have := s_rk_le (b := b) (b' := b') (n := n) (fun q hq => h q (by omega))
    rw [s_rk, s_rk]
    by_cases e : b' n = true
    · rw [if_pos e, if_pos (h n (by omega) e)]; omega
    · rw [if_neg e]; omega
theorem s_rk_sub {b b' : Nat → Bool} {p : Nat} : ∀ {n : Nat}, (∀ q, q < n → b' q = true → b q = true) → p < n → b p = true → b' p = false → s_rk b' n < s_rk b n
  | 0, _, hp, _, _ => by omega
  | n + 1, h, hp, h1, h2 => by
    by_cases e : p = n
    · subst e
      have := s_rk_le (b := b) (b' := b') (n := p) (fun q hq => h q (by omega))
      rw [s_rk, s_rk, if_pos h1, h2]
      simp
      omega
    · have := s_rk_sub (b := b) (b' := b') (p := p) (n := n) (fun q hq => h q (by omega)) (by omega) h1 h2
      rw [s_rk, s_rk]
      by_cases e : b' n = true
      · rw [if_pos e, if_pos (h n (by omega) e)]; omega
      · rw [if_neg e]; omega
theorem s_rk_0 {b : Nat → Bool} {n p : Nat} (h : s_rk b n = 0) (hp : p < n) : b p = false := by
  cases e : b p with
  | false => rfl
  | true => have := s_rk_lt hp e; omega
theorem s_sum_kin {o kin : Nat → Bool} {g : Nat → Nat} {v : Nat} : ∀ {n : Nat}, (∀ p, p < n → kin p = true → o p = true ∧ g p = v) → s_sum (fun p => if o p = true then g p else 0) n = s_sum (fun p => if (o p && !kin p) = true then g p else 0) n + s_rk kin n * v
  | 0, _ => by simp [s_sum, s_rk]
  | n + 1, h => by
    rw [s_sum, s_sum, s_rk, s_sum_kin (n := n) (fun p hp => h p (by omega))]
    by_cases e : kin n = true
    · obtain ⟨a, b⟩ := h n (by omega) e
      simp [a, b, e, Nat.add_mul]
      omega
    · have e' : kin n = false := by simpa using e
      simp [e']
      omega
/-- the rows of finds, as they stand -/
def XZ (K L : Nat → Nat) (G : Nat → Nat → Value) (I : Nat → Nat → Int32) (J : Nat → Nat → Int64) (ca CL cn bc R : Nat) : Prop := G 38 9 = .ref ca ∧ K ca = 14 ∧ L ca = CL ∧ CL ≤ 65536 ∧ 2 ^ cn ≤ CL ∧ (ca = 42 ∨ 103 ≤ ca) ∧ I 38 4 = nI cn ∧ cn ≤ 16 ∧ I 38 7 = nI bc ∧ bc ≤ 12 ∧ J 38 10 = lN R ∧ R < 2 ^ 18 ∧ (∀ b, b < bc → ∀ p, zb (I 40 b) p = true → p < cn) ∧ ∀ p, p < cn → ∀ q, (zb (I 41 p) q = true ↔ q < cn ∧ s_mt (s_B bc (I 40)) p q)
theorem XZ.congr {K L : Nat → Nat} {G : Nat → Nat → Value} {I : Nat → Nat → Int32} {J J' : Nat → Nat → Int64} {ca CL cn bc R : Nat} (h : XZ K L G I J ca CL cn bc R) (h1 : ∀ q, q ≠ ca → J' q = J q) : XZ K L G I J' ca CL cn bc R := by
  obtain ⟨a1, a2, a3, a4, a5, a6, a7, a8, a9, a10, a11, a12⟩ := h
  exact ⟨a1, a2, a3, a4, a5, a6, a7, a8, a9, a10, by rw [h1 38 (by omega)]; exact a11, a12⟩
/-- counts that are kept -/
def s_memo (J : Nat → Nat → Int64) (ca CL cn R : Nat) (V : Nat → Nat) : Prop := ∀ q, q < CL → ∃ r v, r ≤ R ∧ v < 2 ^ 45 ∧ J ca q = lN (r * 2 ^ 45 + v) ∧ (r = R → q < 2 ^ cn → v = V q)
section SER6
variable {l : Launch} {n : Nat} {K L : Nat → Nat} {I : Nat → Nat → Int32} {J : Nat → Nat → Int64} {G : Nat → Nat → Value} {ca CL cn bc R t : Nat}
theorem z_zs {cn : Nat} (h : cn ≤ 16) : 2 ^ cn - 1 < 2 ^ cn ∧ 2 ^ cn ≤ 65536 ∧ nI (2 ^ cn) - 1 = nI (2 ^ cn - 1) := by
  have h1 := Nat.two_pow_pos cn
  have h2 := z_powF h
  refine ⟨by omega, by omega, ?_⟩
  rw [← nI_pred (2 ^ cn - 1), show 2 ^ cn - 1 + 1 = 2 ^ cn by omega]
theorem z_zs_b {cn : Nat} (h : cn ≤ 16) (p : Nat) : zb (nI (2 ^ cn - 1)) p = decide (p < cn) := by
  rw [← (z_zs h).2.2, zb_full h]
theorem z_zs_s {cn t : Nat} (h : t < 2 ^ cn) : t &&& (2 ^ cn - 1) = t := by
  rw [Nat.and_two_pow_sub_one_eq_mod, Nat.mod_eq_of_lt h]
theorem c78 (hS : SS K L G) (h4 : I 38 4 = nI cn) (hc : cn ≤ 16) : z_D l 0 78 [.ref 38] (n, K, L, I, J, G) (some (.int (nI (2 ^ cn - 1)))) (n, K, L, I, J, G) := by
  refine z_ctr (by decide) (by decide +kernel) (Nat.le_of_ble_eq_true rfl) (by decide +kernel) (fun X hl hj hd hm hs hsc hQ => ?_)
  show zV X 0 [some (.ref 38)] [] _ 0 0
  refine zW_ok hj B78_0 0 _ _ _ _ _ b78_0 ?_
  simp only [B78_0, zW, z_wp1, z_ld, z_f0, z_f1, z_f2, z_f3, List.getElem?_cons_zero, List.getElem?_cons_succ, true_and, and_true, Int32.reduceOfInt, z_i10, z_i01, Int32.reduceLT, Int32.reduceLE, Int32.reduceAdd, Int32.reduceSub, z_set, z_set2, z_kil, List.set_cons_zero, List.set_cons_succ, List.take_succ_cons, List.take_zero, List.drop_succ_cons, List.drop_zero, List.reverse_cons, List.reverse_nil, List.nil_append, List.cons_append, List.getD_cons_succ, List.getD_cons_zero, List.getD_nil, List.length_cons, List.length_nil, List.map_cons, List.map_nil, List.sum_cons, List.sum_nil, Nat.reduceAdd, Nat.reduceLeDiff, Value.category, Option.toList, true_or, or_true, z_ua, ↓reduceIte, Nat.reduceEqDiff, eq_self, not_true_eq_false, not_false_eq_true, false_implies, true_implies, Classical.not_not, Nat.le_refl, Nat.zero_le, sK38 hS, h4, z_shl1 (show cn < 17 by omega), (z_zs hc).2.2]
  try dsimp only
  exact hQ _ _ ⟨rfl, rfl⟩
theorem c84 (x : Int32) : z_D l 0 84 [.int x] (n, K, L, I, J, G) (some (.int (x &&& -x))) (n, K, L, I, J, G) := by
  refine z_ctr (by decide) (by decide +kernel) (Nat.le_of_ble_eq_true rfl) (by decide +kernel) (fun X hl hj hd hm hs hsc hQ => ?_)
  show zV X 0 [some (.int x)] [] _ 0 0
  refine zW_ok hj B84_0 0 _ _ _ _ _ b84_0 ?_
  simp only [B84_0, zW, z_wp1, z_ld, z_f0, z_f1, z_f2, z_f3, List.getElem?_cons_zero, List.getElem?_cons_succ, true_and, and_true, Int32.reduceOfInt, z_i10, z_i01, Int32.reduceLT, Int32.reduceLE, Int32.reduceAdd, Int32.reduceSub, z_set, z_set2, z_kil, List.set_cons_zero, List.set_cons_succ, List.take_succ_cons, List.take_zero, List.drop_succ_cons, List.drop_zero, List.reverse_cons, List.reverse_nil, List.nil_append, List.cons_append, List.getD_cons_succ, List.getD_cons_zero, List.getD_nil, List.length_cons, List.length_nil, List.map_cons, List.map_nil, List.sum_cons, List.sum_nil, Nat.reduceAdd, Nat.reduceLeDiff, Value.category, Option.toList, true_or, or_true, z_ua, ↓reduceIte, Nat.reduceEqDiff, eq_self, not_true_eq_false, not_false_eq_true, false_implies, true_implies, Classical.not_not, Nat.le_refl, Nat.zero_le]
  try dsimp only
  exact hQ _ _ ⟨rfl, rfl⟩
theorem c83_loop {X : zX} (hS : SS K L G) (hj : X.2.1 = 83) (h4 : I 38 4 = nI cn) (hc : cn ≤ 16) {p : Nat} (hp : p < cn) (hQ : ∀ r h', r = some (.int (I 41 p)) ∧ h' = (n, K, L, I, J, G) → X.2.2.2.2.2.2 r h') : ∀ k i : Nat, i + k = p → zV X 2 [some (.ref 38), some (.int (nI (2 ^ p))), some (.int (nI i))] [] (n, K, L, I, J, G) 0 0
  | 0, i, hk => by
    have e : i = p := by omega
    subst e
    have e1 : (nI i).toNatClampNeg = i := nI_clamp (by omega)
    have v1 : vp_in (nI i) 16 := vp_in_nI (by omega) (by omega)
    refine zW_ok hj B83_2 2 _ _ _ _ _ b83_2 ?_
    simp only [B83_2, zW, z_wp1, z_ld, z_f0, z_f1, z_f2, z_f3, List.getElem?_cons_zero, List.getElem?_cons_succ, true_and, and_true, Int32.reduceOfInt, z_i10, z_i01, Int32.reduceLT, Int32.reduceLE, Int32.reduceAdd, Int32.reduceSub, z_set, z_set2, z_kil, List.set_cons_zero, List.set_cons_succ, List.take_succ_cons, List.take_zero, List.drop_succ_cons, List.drop_zero, List.reverse_cons, List.reverse_nil, List.nil_append, List.cons_append, List.getD_cons_succ, List.getD_cons_zero, List.getD_nil, List.length_cons, List.length_nil, List.map_cons, List.map_nil, List.sum_cons, List.sum_nil, Nat.reduceAdd, Nat.reduceLeDiff, Value.category, Option.toList, true_or, or_true, z_ua, ↓reduceIte, Nat.reduceEqDiff, eq_self, not_true_eq_false, not_false_eq_true, false_implies, true_implies, Classical.not_not, Nat.le_refl, Nat.zero_le, sK38 hS, h4, z_shl1 (show i < 17 by omega), sG38_8 hS, sK41 hS, sL41 hS, e1, v1]
    try dsimp only
    exact ⟨fun q => absurd q (nI_ge (by omega) (by omega)), fun _ => hQ _ _ ⟨rfl, rfl⟩⟩
  | k + 1, i, hk => by
    have h1 : 2 ^ i < 2 ^ p := Nat.pow_lt_pow_right (by omega) (by omega)
    have h2 : 2 ^ p ≤ 2 ^ 16 := Nat.pow_le_pow_right (by omega) (by omega)
    have ne : ¬ nI (2 ^ p) = nI (2 ^ i) := fun q => by have := (nI_eq (by omega) (by omega)).mp q; omega
    have ih := c83_loop hS hj h4 hc hp hQ k (i + 1) (by omega)
    refine zW_ok hj B83_2 2 _ _ _ _ _ b83_2 ?_
    simp only [B83_2, zW, z_wp1, z_ld, z_f0, z_f1, z_f2, z_f3, List.getElem?_cons_zero, List.getElem?_cons_succ, true_and, and_true, Int32.reduceOfInt, z_i10, z_i01, Int32.reduceLT, Int32.reduceLE, Int32.reduceAdd, Int32.reduceSub, z_set, z_set2, z_kil, List.set_cons_zero, List.set_cons_succ, List.take_succ_cons, List.take_zero, List.drop_succ_cons, List.drop_zero, List.reverse_cons, List.reverse_nil, List.nil_append, List.cons_append, List.getD_cons_succ, List.getD_cons_zero, List.getD_nil, List.length_cons, List.length_nil, List.map_cons, List.map_nil, List.sum_cons, List.sum_nil, Nat.reduceAdd, Nat.reduceLeDiff, Value.category, Option.toList, true_or, or_true, z_ua, ↓reduceIte, Nat.reduceEqDiff, eq_self, not_true_eq_false, not_false_eq_true, false_implies, true_implies, Classical.not_not, Nat.le_refl, Nat.zero_le, sK38 hS, h4, z_shl1 (show i < 17 by omega), ne]
    try dsimp only
    refine ⟨fun q => absurd q (nI_ge (by omega) (by omega)), fun _ => ?_⟩
    refine zW_ok hj B83_24 24 _ _ _ _ _ b83_24 ?_
    simp only [B83_24, zW, z_wp1, z_ld, z_f0, z_f1, z_f2, z_f3, List.getElem?_cons_zero, List.getElem?_cons_succ, true_and, and_true, Int32.reduceOfInt, z_i10, z_i01, Int32.reduceLT, Int32.reduceLE, Int32.reduceAdd, Int32.reduceSub, z_set, z_set2, z_kil, List.set_cons_zero, List.set_cons_succ, List.take_succ_cons, List.take_zero, List.drop_succ_cons, List.drop_zero, List.reverse_cons, List.reverse_nil, List.nil_append, List.cons_append, List.getD_cons_succ, List.getD_cons_zero, List.getD_nil, List.length_cons, List.length_nil, List.map_cons, List.map_nil, List.sum_cons, List.sum_nil, Nat.reduceAdd, Nat.reduceLeDiff, Value.category, Option.toList, true_or, or_true, z_ua, ↓reduceIte, Nat.reduceEqDiff, eq_self, not_true_eq_false, not_false_eq_true, false_implies, true_implies, Classical.not_not, Nat.le_refl, Nat.zero_le, nI_1]
    try dsimp only
    exact ih
theorem c83 (hS : SS K L G) (h4 : I 38 4 = nI cn) (hc : cn ≤ 16) {p : Nat} (hp : p < cn) : z_D l 0 83 [.ref 38, .int (nI (2 ^ p))] (n, K, L, I, J, G) (some (.int (I 41 p))) (n, K, L, I, J, G) := by
  refine z_ctr (by decide) (by decide +kernel) (Nat.le_of_ble_eq_true rfl) (by decide +kernel) (fun X hl hj hd hm hs hsc hQ => ?_)
  show zV X 0 [some (.ref 38), some (.int (nI (2 ^ p))), none] [] _ 0 0
  refine zW_ok hj B83_0 0 _ _ _ _ _ b83_0 ?_
  simp only [B83_0, zW, z_wp1, z_ld, z_f0, z_f1, z_f2, z_f3, List.getElem?_cons_zero, List.getElem?_cons_succ, true_and, and_true, Int32.reduceOfInt, z_i10, z_i01, Int32.reduceLT, Int32.reduceLE, Int32.reduceAdd, Int32.reduceSub, z_set, z_set2, z_kil, List.set_cons_zero, List.set_cons_succ, List.take_succ_cons, List.take_zero, List.drop_succ_cons, List.drop_zero, List.reverse_cons, List.reverse_nil, List.nil_append, List.cons_append, List.getD_cons_succ, List.getD_cons_zero, List.getD_nil, List.length_cons, List.length_nil, List.map_cons, List.map_nil, List.sum_cons, List.sum_nil, Nat.reduceAdd, Nat.reduceLeDiff, Value.category, Option.toList, true_or, or_true, z_ua, ↓reduceIte, Nat.reduceEqDiff, eq_self, not_true_eq_false, not_false_eq_true, false_implies, true_implies, Classical.not_not, Nat.le_refl, Nat.zero_le]
  try dsimp only
  exact c83_loop hS hj h4 hc hp hQ p 0 (by omega)
theorem c81_loop {X : zX} (hS : SS K L G) (hj : X.2.1 = 81) {set used : Int32} (h7 : I 38 7 = nI bc) (hb : bc ≤ 12) (hQ : ∀ r h', r = some (.int (m_may (I 40) set used bc)) ∧ h' = (n, K, L, I, J, G) → X.2.2.2.2.2.2 r h') : ∀ k i : Nat, i + k = bc → zV X 11 [some (.ref 38), some (.int used), some (.int (m_may (I 40) set used i)), some (.int (nI i))] [] (n, K, L, I, J, G) 0 0
  | 0, i, hk => by
    have e : i = bc := by omega
    subst e
    refine zW_ok hj B81_11 11 _ _ _ _ _ b81_11 ?_
    simp only [B81_11, zW, z_wp1, z_ld, z_f0, z_f1, z_f2, z_f3, List.getElem?_cons_zero, List.getElem?_cons_succ, true_and, and_true, Int32.reduceOfInt, z_i10, z_i01, Int32.reduceLT, Int32.reduceLE, Int32.reduceAdd, Int32.reduceSub, z_set, z_set2, z_kil, List.set_cons_zero, List.set_cons_succ, List.take_succ_cons, List.take_zero, List.drop_succ_cons, List.drop_zero, List.reverse_cons, List.reverse_nil, List.nil_append, List.cons_append, List.getD_cons_succ, List.getD_cons_zero, List.getD_nil, List.length_cons, List.length_nil, List.map_cons, List.map_nil, List.sum_cons, List.sum_nil, Nat.reduceAdd, Nat.reduceLeDiff, Value.category, Option.toList, true_or, or_true, z_ua, ↓reduceIte, Nat.reduceEqDiff, eq_self, not_true_eq_false, not_false_eq_true, false_implies, true_implies, Classical.not_not, Nat.le_refl, Nat.zero_le, sK38 hS, h7]
    try dsimp only
    refine ⟨fun _ => ?_, fun q => absurd (nI_le (Nat.le_refl _) (by omega)) q⟩
    refine zW_ok hj B81_58 58 _ _ _ _ _ b81_58 ?_
    simp only [B81_58, zW, z_wp1, z_ld, z_f0, z_f1, z_f2, z_f3, List.getElem?_cons_zero, List.getElem?_cons_succ, true_and, and_true, Int32.reduceOfInt, z_i10, z_i01, Int32.reduceLT, Int32.reduceLE, Int32.reduceAdd, Int32.reduceSub, z_set, z_set2, z_kil, List.set_cons_zero, List.set_cons_succ, List.take_succ_cons, List.take_zero, List.drop_succ_cons, List.drop_zero, List.reverse_cons, List.reverse_nil, List.nil_append, List.cons_append, List.getD_cons_succ, List.getD_cons_zero, List.getD_nil, List.length_cons, List.length_nil, List.map_cons, List.map_nil, List.sum_cons, List.sum_nil, Nat.reduceAdd, Nat.reduceLeDiff, Value.category, Option.toList, true_or, or_true, z_ua, ↓reduceIte, Nat.reduceEqDiff, eq_self, not_true_eq_false, not_false_eq_true, false_implies, true_implies, Classical.not_not, Nat.le_refl, Nat.zero_le]
    try dsimp only
    exact hQ _ _ ⟨rfl, rfl⟩
  | k + 1, i, hk => by
    have e1 : (nI i).toNatClampNeg = i := nI_clamp (by omega)
    have v1 : vp_in (nI i) 12 := vp_in_nI (by omega) (by omega)
    have ih := c81_loop hS hj h7 hb hQ k (i + 1) (by omega)
    have go : ∀ a : Int32, a = m_may (I 40) set used (i + 1) → zV X 52 [some (.ref 38), some (.int used), some (.int a), some (.int (nI i))] [] (n, K, L, I, J, G) 0 0 := fun a ha => by
      subst ha
      refine zW_ok hj B81_52 52 _ _ _ _ _ b81_52 ?_
      simp only [B81_52, zW, z_wp1, z_ld, z_f0, z_f1, z_f2, z_f3, List.getElem?_cons_zero, List.getElem?_cons_succ, true_and, and_true, Int32.reduceOfInt, z_i10, z_i01, Int32.reduceLT, Int32.reduceLE, Int32.reduceAdd, Int32.reduceSub, z_set, z_set2, z_kil, List.set_cons_zero, List.set_cons_succ, List.take_succ_cons, List.take_zero, List.drop_succ_cons, List.drop_zero, List.reverse_cons, List.reverse_nil, List.nil_append, List.cons_append, List.getD_cons_succ, List.getD_cons_zero, List.getD_nil, List.length_cons, List.length_nil, List.map_cons, List.map_nil, List.sum_cons, List.sum_nil, Nat.reduceAdd, Nat.reduceLeDiff, Value.category, Option.toList, true_or, or_true, z_ua, ↓reduceIte, Nat.reduceEqDiff, eq_self, not_true_eq_false, not_false_eq_true, false_implies, true_implies, Classical.not_not, Nat.le_refl, Nat.zero_le, nI_1]
      try dsimp only
      exact ih
    refine zW_ok hj B81_11 11 _ _ _ _ _ b81_11 ?_
    simp only [B81_11, zW, z_wp1, z_ld, z_f0, z_f1, z_f2, z_f3, List.getElem?_cons_zero, List.getElem?_cons_succ, true_and, and_true, Int32.reduceOfInt, z_i10, z_i01, Int32.reduceLT, Int32.reduceLE, Int32.reduceAdd, Int32.reduceSub, z_set, z_set2, z_kil, List.set_cons_zero, List.set_cons_succ, List.take_succ_cons, List.take_zero, List.drop_succ_cons, List.drop_zero, List.reverse_cons, List.reverse_nil, List.nil_append, List.cons_append, List.getD_cons_succ, List.getD_cons_zero, List.getD_nil, List.length_cons, List.length_nil, List.map_cons, List.map_nil, List.sum_cons, List.sum_nil, Nat.reduceAdd, Nat.reduceLeDiff, Value.category, Option.toList, true_or, or_true, z_ua, ↓reduceIte, Nat.reduceEqDiff, eq_self, not_true_eq_false, not_false_eq_true, false_implies, true_implies, Classical.not_not, Nat.le_refl, Nat.zero_le, sK38 hS, h7, sG38_6 hS, sK40 hS, sL40 hS, e1, v1]
    try dsimp only
    refine ⟨fun q => absurd q (nI_ge (by omega) (by omega)), fun _ => ⟨fun h1 => go _ ?_, fun h1 => ⟨fun h2 => go _ ?_, fun h2 => go _ ?_⟩⟩⟩
    · rw [m_may, if_neg (fun z => z.1 h1)]
    · rw [m_may, if_neg (fun z => z.2 h2)]
    · rw [m_may, if_pos ⟨h1, h2⟩]
theorem c81 (hS : SS K L G) (h4 : I 38 4 = nI cn) (hc : cn ≤ 16) (h7 : I 38 7 = nI bc) (hb : bc ≤ 12) (used : Int32) : z_D l 1 81 [.ref 38, .int used] (n, K, L, I, J, G) (some (.int (m_may (I 40) (nI (2 ^ cn - 1)) used bc))) (n, K, L, I, J, G) := by
  refine z_ctr (by decide) (by decide +kernel) (Nat.le_of_ble_eq_true rfl) (by decide +kernel) (fun X hl hj hd hm hs hsc hQ => ?_)
  show zV X 0 [some (.ref 38), some (.int used), none, none] [] _ 0 0
  refine zW_ok hj B81_0 0 _ _ _ _ _ b81_0 ?_
  simp only [B81_0, zW, z_wp1, z_ld, z_f0, z_f1, z_f2, z_f3, List.getElem?_cons_zero, List.getElem?_cons_succ, true_and, and_true, Int32.reduceOfInt, z_i10, z_i01, Int32.reduceLT, Int32.reduceLE, Int32.reduceAdd, Int32.reduceSub, z_set, z_set2, z_kil, List.set_cons_zero, List.set_cons_succ, List.take_succ_cons, List.take_zero, List.drop_succ_cons, List.drop_zero, List.reverse_cons, List.reverse_nil, List.nil_append, List.cons_append, List.getD_cons_succ, List.getD_cons_zero, List.getD_nil, List.length_cons, List.length_nil, List.map_cons, List.map_nil, List.sum_cons, List.sum_nil, Nat.reduceAdd, Nat.reduceLeDiff, Value.category, Option.toList, true_or, or_true, z_ua, ↓reduceIte, Nat.reduceEqDiff, eq_self, not_true_eq_false, not_false_eq_true, false_implies, true_implies, Classical.not_not, Nat.le_refl, Nat.zero_le, sK38 hS]
  try dsimp only
  refine z_callD (c78 (I := I) (J := J) hS h4 hc) (by omega) (by omega) (by omega) (Nat.le_of_ble_eq_true rfl) ?_
  try simp only [zW, z_wp1, z_ld, z_f0, z_f1, z_f2, z_f3, List.getElem?_cons_zero, List.getElem?_cons_succ, true_and, and_true, Int32.reduceOfInt, z_i10, z_i01, Int32.reduceLT, Int32.reduceLE, Int32.reduceAdd, Int32.reduceSub, z_set, z_set2, z_kil, List.set_cons_zero, List.set_cons_succ, List.take_succ_cons, List.take_zero, List.drop_succ_cons, List.drop_zero, List.reverse_cons, List.reverse_nil, List.nil_append, List.cons_append, List.getD_cons_succ, List.getD_cons_zero, List.getD_nil, List.length_cons, List.length_nil, List.map_cons, List.map_nil, List.sum_cons, List.sum_nil, Nat.reduceAdd, Nat.reduceLeDiff, Value.category, Option.toList, true_or, or_true, z_ua, ↓reduceIte, Nat.reduceEqDiff, eq_self, not_true_eq_false, not_false_eq_true, false_implies, true_implies, Classical.not_not, Nat.le_refl, Nat.zero_le, sK38 hS]
  try dsimp only
  exact c81_loop hS hj h7 hb hQ bc 0 (by omega)
end SER6
