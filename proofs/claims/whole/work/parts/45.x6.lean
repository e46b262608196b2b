/-! The class: rows cut -/
theorem nI_mul (a b : Nat) : nI a * nI b = nI (a * b) := (Int32.ofNat_mul a b).symm
def x_bits (T : Nat → Int32) (v : Int32) : Nat → Int32
  | 0 => 0
  | i + 1 => if T i = v then x_bits T v i ||| 1 <<< (nI i &&& 31) else x_bits T v i
theorem x_bits_congr {T T' : Nat → Int32} {v : Int32} : ∀ {N : Nat}, (∀ i, i < N → T i = T' i) → x_bits T v N = x_bits T' v N
  | 0, _ => rfl
  | i + 1, h => by simp only [x_bits, h i (by omega), x_bits_congr (N := i) (fun k hk => h k (by omega))]
/-- what a viewer knows of a find's measure, by a row of known values -/
def x_me (kv : Nat → Int32) (k : Int32) (f : Nat) (a : Int32) : Int32 := x_two k (kv (6 * f + a.toNatClampNeg)) (kv (96 + (6 * f + a.toNatClampNeg)))
section X6
variable {l : Launch} {n : Nat} {K L : Nat → Nat} {I : Nat → Nat → Int32} {J : Nat → Nat → Int64} {G : Nat → Nat → Value} {cd p q : Nat}
theorem c104_loop {X : zX} (hq1 : K q = 13) (hq2 : L q = 192) (hp1 : K p = 13) (hp2 : L p = 6) (hpq : q ≠ p) (hj : X.2.1 = 104) (hd : X.2.2.1 = 1) (hm : X.2.2.2.1 = 0) (hs : X.2.2.2.2.1 = 0) {f : Nat} (hf : f < 16) {k0 : Int32} (hQ : ∀ r h', (r = none ∧ ∃ I', h' = (n, K, L, I', J, G) ∧ (∀ u, u ≠ p → I' u = I u) ∧ ∀ m, m < 6 → I' p m = x_me (I q) k0 f (nI m)) → X.2.2.2.2.2.2 r h') : ∀ (k m : Nat) (I' : Nat → Nat → Int32), m + k = 6 → (∀ u, u ≠ p → I' u = I u) → (∀ g, g < m → I' p g = x_me (I q) k0 f (nI g)) → zV X 3 [some (.ref q), some (.int k0), some (.int (nI f)), some (.ref p), some (.int (nI m))] [] (n, K, L, I', J, G) 0 0
  | 0, m, I', hk, ho, hg => by
    have e : m = 6 := by omega
    subst e
    refine zW_ok hj B104_3 3 _ _ _ _ _ b104_3 ?_
    simp only [B104_3, zW, z_wp1, z_ld, z_f0, z_f1, z_f2, z_f3, List.getElem?_cons_zero, List.getElem?_cons_succ, true_and, and_true, Int32.reduceOfInt, z_i10, z_i01, Int32.reduceLT, Int32.reduceLE, Int32.reduceAdd, Int32.reduceSub, z_set, z_set2, z_kil, List.set_cons_zero, List.set_cons_succ, List.take_succ_cons, List.take_zero, List.drop_succ_cons, List.drop_zero, List.reverse_cons, List.reverse_nil, List.nil_append, List.cons_append, List.getD_cons_succ, List.getD_cons_zero, List.getD_nil, List.length_cons, List.length_nil, List.map_cons, List.map_nil, List.sum_cons, List.sum_nil, Nat.reduceAdd, Nat.reduceLeDiff, Value.category, Option.toList, true_or, or_true, z_ua, ↓reduceIte, Nat.reduceEqDiff, eq_self, not_true_eq_false, not_false_eq_true, false_implies, true_implies, Classical.not_not, Nat.le_refl, Nat.zero_le]
    try dsimp only
    refine ⟨fun _ => ?_, fun hc => absurd (show (6 : Int32) ≤ nI 6 by decide) hc⟩
    refine zW_ok hj B104_32 32 _ _ _ _ _ b104_32 ?_
    simp only [B104_32, zW, z_wp1, z_ld, z_f0, z_f1, z_f2, z_f3, List.getElem?_cons_zero, List.getElem?_cons_succ, true_and, and_true, Int32.reduceOfInt, z_i10, z_i01, Int32.reduceLT, Int32.reduceLE, Int32.reduceAdd, Int32.reduceSub, z_set, z_set2, z_kil, List.set_cons_zero, List.set_cons_succ, List.take_succ_cons, List.take_zero, List.drop_succ_cons, List.drop_zero, List.reverse_cons, List.reverse_nil, List.nil_append, List.cons_append, List.getD_cons_succ, List.getD_cons_zero, List.getD_nil, List.length_cons, List.length_nil, List.map_cons, List.map_nil, List.sum_cons, List.sum_nil, Nat.reduceAdd, Nat.reduceLeDiff, Value.category, Option.toList, true_or, or_true, z_ua, ↓reduceIte, Nat.reduceEqDiff, eq_self, not_true_eq_false, not_false_eq_true, false_implies, true_implies, Classical.not_not, Nat.le_refl, Nat.zero_le]
    try dsimp only
    exact hQ _ _ ⟨rfl, I', rfl, ho, hg⟩
  | k + 1, m, I', hk, ho, hg => by
    have e1 : nI f * 6 + nI m = nI (6 * f + m) := by
      rw [show (6 : Int32) = nI 6 by decide, nI_mul, nI_add, Nat.mul_comm]
    have h1 : (nI m).toNatClampNeg = m := nI_clamp (by omega)
    have v1 : vp_in (nI m) 6 := vp_in_nI (by omega) (by omega)
    have hn : ¬ (6 : Int32) ≤ nI m := fun q => by
      have := (nI_leI (a := 6) (b := m) (by omega) (by omega)).mp q
      omega
    refine zW_ok hj B104_3 3 _ _ _ _ _ b104_3 ?_
    simp only [B104_3, zW, z_wp1, z_ld, z_f0, z_f1, z_f2, z_f3, List.getElem?_cons_zero, List.getElem?_cons_succ, true_and, and_true, Int32.reduceOfInt, z_i10, z_i01, Int32.reduceLT, Int32.reduceLE, Int32.reduceAdd, Int32.reduceSub, z_set, z_set2, z_kil, List.set_cons_zero, List.set_cons_succ, List.take_succ_cons, List.take_zero, List.drop_succ_cons, List.drop_zero, List.reverse_cons, List.reverse_nil, List.nil_append, List.cons_append, List.getD_cons_succ, List.getD_cons_zero, List.getD_nil, List.length_cons, List.length_nil, List.map_cons, List.map_nil, List.sum_cons, List.sum_nil, Nat.reduceAdd, Nat.reduceLeDiff, Value.category, Option.toList, true_or, or_true, z_ua, ↓reduceIte, Nat.reduceEqDiff, eq_self, not_true_eq_false, not_false_eq_true, false_implies, true_implies, Classical.not_not, Nat.le_refl, Nat.zero_le]
    try dsimp only
    refine ⟨fun hc => absurd hc hn, fun _ => ?_⟩
    rw [e1]
    refine z_callD (c156 (I := I') hq1 hq2 (s := 6 * f + m) (by omega) k0) (by omega) (by omega) (by omega) (Nat.le_of_ble_eq_true rfl) ?_
    try simp only [zW, z_wp1, z_ld, z_f0, z_f1, z_f2, z_f3, List.getElem?_cons_zero, List.getElem?_cons_succ, true_and, and_true, Int32.reduceOfInt, z_i10, z_i01, Int32.reduceLT, Int32.reduceLE, Int32.reduceAdd, Int32.reduceSub, z_set, z_set2, z_kil, List.set_cons_zero, List.set_cons_succ, List.take_succ_cons, List.take_zero, List.drop_succ_cons, List.drop_zero, List.reverse_cons, List.reverse_nil, List.nil_append, List.cons_append, List.getD_cons_succ, List.getD_cons_zero, List.getD_nil, List.length_cons, List.length_nil, List.map_cons, List.map_nil, List.sum_cons, List.sum_nil, Nat.reduceAdd, Nat.reduceLeDiff, Value.category, Option.toList, true_or, or_true, z_ua, ↓reduceIte, Nat.reduceEqDiff, eq_self, not_true_eq_false, not_false_eq_true, false_implies, true_implies, Classical.not_not, Nat.le_refl, Nat.zero_le, hp1, hp2, h1, v1, nI_1]
    try dsimp only
    refine c104_loop hq1 hq2 hp1 hp2 hpq hj hd hm hs hf hQ k (m + 1) _ (by omega) (fun u hu => by rw [z_u_ne hu]; exact ho u hu) (fun g hg' => ?_)
    rw [z_u_at]
    by_cases e : g = m
    · rw [if_pos e, x_me, e, h1, ho q hpq]
    · rw [if_neg e]
      exact hg g (by omega)
theorem c104 (hq1 : K q = 13) (hq2 : L q = 192) (hp1 : K p = 13) (hp2 : L p = 6) (hpq : q ≠ p) {f : Nat} (hf : f < 16) (k0 : Int32) : z_Ctr l 1 104 [.ref q, .int k0, .int (nI f), .ref p] (n, K, L, I, J, G) 0 0 (fun r h' => r = none ∧ ∃ I', h' = (n, K, L, I', J, G) ∧ (∀ u, u ≠ p → I' u = I u) ∧ ∀ m, m < 6 → I' p m = x_me (I q) k0 f (nI m)) := by
  refine z_ctr (by decide) (by decide +kernel) (Nat.le_of_ble_eq_true rfl) (by decide +kernel) (fun X hl hj hd hm hs hsc hQ => ?_)
  show zV X 0 [some (.ref q), some (.int k0), some (.int (nI f)), some (.ref p), none] [] _ 0 0
  refine zW_ok hj B104_0 0 _ _ _ _ _ b104_0 ?_
  simp only [B104_0, zW, z_wp1, z_ld, z_f0, z_f1, z_f2, z_f3, List.getElem?_cons_zero, List.getElem?_cons_succ, true_and, and_true, Int32.reduceOfInt, z_i10, z_i01, Int32.reduceLT, Int32.reduceLE, Int32.reduceAdd, Int32.reduceSub, z_set, z_set2, z_kil, List.set_cons_zero, List.set_cons_succ, List.take_succ_cons, List.take_zero, List.drop_succ_cons, List.drop_zero, List.reverse_cons, List.reverse_nil, List.nil_append, List.cons_append, List.getD_cons_succ, List.getD_cons_zero, List.getD_nil, List.length_cons, List.length_nil, List.map_cons, List.map_nil, List.sum_cons, List.sum_nil, Nat.reduceAdd, Nat.reduceLeDiff, Value.category, Option.toList, true_or, or_true, z_ua, ↓reduceIte, Nat.reduceEqDiff, eq_self, not_true_eq_false, not_false_eq_true, false_implies, true_implies, Classical.not_not, Nat.le_refl, Nat.zero_le]
  try dsimp only
  exact c104_loop hq1 hq2 hp1 hp2 hpq hj hd hm hs hf hQ 6 0 I rfl (fun _ _ => rfl) (fun g hg => by omega)
theorem x_lt6 {a : Int32} (h : 0 ≤ a ∧ a < 6) : ∃ m, m < 6 ∧ a = nI m := z_ix3 (n := 6) (by omega) h
/-- cut: what is left alone -/
def x_cf (I I' : Nat → Nat → Int32) (cd f : Nat) : Prop := (∀ q, q ≠ 16 → q ≠ 17 → q ≠ cd → q ≠ cd + 3 → I' q = I q) ∧ (∀ k, k ≠ 5 → k ≠ 6 → I' cd k = I cd k) ∧ ∀ g, g ≠ f → I' 16 g = I 16 g ∧ I' 17 g = I 17 g
theorem c103_loop {X : zX} (hS : SS K L G) (hC : XC G cd) (hj : X.2.1 = 103) (hd : X.2.2.1 = 4) (hm : X.2.2.2.1 = 0) (hs : X.2.2.2.2.1 = 0) {f N : Nat} (hf : f < 16) {tr : Nat → (Int32 → Int32) → Int32} (hsc0 : x_scale I cd N tr) (T : Nat → Int32) (hT : ∀ i, i < N → T i = tr i (fun a => I 19 a.toNatClampNeg)) (hQ : ∀ r h', (r = none ∧ ∃ I', h' = (n, K, L, z_u I' 18 f 1, J, G) ∧ x_cf I I' cd f ∧ I' 16 f = x_bits T 1 N ∧ I' 17 f = x_bits T 2 N) → X.2.2.2.2.2.2 r h') : ∀ (k i : Nat) (I' : Nat → Nat → Int32) (x : Option Value), i + k = N → x_cf I I' cd f → I' 16 f = x_bits T 1 i → I' 17 f = x_bits T 2 i → zV X 32 [some (.ref 10), some (.int (nI f)), some (.int (nI i)), x] [] (n, K, L, I', J, G) 0 0
  | 0, i, I', x, hk, ho, g1, g2 => by
    have e : i = N := by omega
    subst e
    have k5 := (XD_of hS hC.1).1
    have hg := hC.2.1
    have h3 : I' cd 3 = nI i := by rw [ho.2.1 3 (by omega) (by omega)]; exact hsc0.1
    have h1 : (nI f).toNatClampNeg = f := nI_clamp (by omega)
    have v1 : vp_in (nI f) 16 := vp_in_nI (by omega) (by omega)
    refine zW_ok hj B103_32 32 _ _ _ _ _ b103_32 ?_
    simp only [B103_32, zW, z_wp1, z_ld, z_f0, z_f1, z_f2, z_f3, List.getElem?_cons_zero, List.getElem?_cons_succ, true_and, and_true, Int32.reduceOfInt, z_i10, z_i01, Int32.reduceLT, Int32.reduceLE, Int32.reduceAdd, Int32.reduceSub, z_set, z_set2, z_kil, List.set_cons_zero, List.set_cons_succ, List.take_succ_cons, List.take_zero, List.drop_succ_cons, List.drop_zero, List.reverse_cons, List.reverse_nil, List.nil_append, List.cons_append, List.getD_cons_succ, List.getD_cons_zero, List.getD_nil, List.length_cons, List.length_nil, List.map_cons, List.map_nil, List.sum_cons, List.sum_nil, Nat.reduceAdd, Nat.reduceLeDiff, Value.category, Option.toList, true_or, or_true, z_ua, ↓reduceIte, Nat.reduceEqDiff, eq_self, not_true_eq_false, not_false_eq_true, false_implies, true_implies, Classical.not_not, Nat.le_refl, Nat.zero_le, sK10 hS, hg, k5, h3]
    try dsimp only
    refine ⟨fun _ => ?_, fun hc => absurd (nI_le (Nat.le_refl _) (by have := hsc0.2.1; omega)) hc⟩
    refine zW_ok hj B103_104 104 _ _ _ _ _ b103_104 ?_
    simp only [B103_104, zW, z_wp1, z_ld, z_f0, z_f1, z_f2, z_f3, List.getElem?_cons_zero, List.getElem?_cons_succ, true_and, and_true, Int32.reduceOfInt, z_i10, z_i01, Int32.reduceLT, Int32.reduceLE, Int32.reduceAdd, Int32.reduceSub, z_set, z_set2, z_kil, List.set_cons_zero, List.set_cons_succ, List.take_succ_cons, List.take_zero, List.drop_succ_cons, List.drop_zero, List.reverse_cons, List.reverse_nil, List.nil_append, List.cons_append, List.getD_cons_succ, List.getD_cons_zero, List.getD_nil, List.length_cons, List.length_nil, List.map_cons, List.map_nil, List.sum_cons, List.sum_nil, Nat.reduceAdd, Nat.reduceLeDiff, Value.category, Option.toList, true_or, or_true, z_ua, ↓reduceIte, Nat.reduceEqDiff, eq_self, not_true_eq_false, not_false_eq_true, false_implies, true_implies, Classical.not_not, Nat.le_refl, Nat.zero_le, sK10 hS, sG10_7 hS, sK18 hS, sL18 hS, h1, v1, z_nb1]
    try dsimp only
    exact hQ _ _ ⟨rfl, I', rfl, ho, g1, g2⟩
  | k + 1, i, I', x, hk, ho, g1, g2 => by
    have k5 := (XD_of hS hC.1).1
    have hg := hC.2.1
    have c1 := hC.1
    have n12 := hsc0.2.1
    have d16 : ¬ (16 : Nat) = cd := by omega
    have d17 : ¬ (17 : Nat) = cd := by omega
    have h3 : I' cd 3 = nI N := by rw [ho.2.1 3 (by omega) (by omega)]; exact hsc0.1
    have h1 : (nI f).toNatClampNeg = f := nI_clamp (by omega)
    have v1 : vp_in (nI f) 16 := vp_in_nI (by omega) (by omega)
    have hsc1 : x_scale I' cd N tr := hsc0.congr (ho.2.1 3 (by omega) (by omega)) (ho.1 _ (by omega) (by omega) (by omega) (by omega)) (ho.1 _ (by omega) (by omega) (by omega) (by omega))
    have h19 : I' 19 = I 19 := ho.1 19 (by omega) (by omega) (by omega) (by omega)
    refine zW_ok hj B103_32 32 _ _ _ _ _ b103_32 ?_
    simp only [B103_32, zW, z_wp1, z_ld, z_f0, z_f1, z_f2, z_f3, List.getElem?_cons_zero, List.getElem?_cons_succ, true_and, and_true, Int32.reduceOfInt, z_i10, z_i01, Int32.reduceLT, Int32.reduceLE, Int32.reduceAdd, Int32.reduceSub, z_set, z_set2, z_kil, List.set_cons_zero, List.set_cons_succ, List.take_succ_cons, List.take_zero, List.drop_succ_cons, List.drop_zero, List.reverse_cons, List.reverse_nil, List.nil_append, List.cons_append, List.getD_cons_succ, List.getD_cons_zero, List.getD_nil, List.length_cons, List.length_nil, List.map_cons, List.map_nil, List.sum_cons, List.sum_nil, Nat.reduceAdd, Nat.reduceLeDiff, Value.category, Option.toList, true_or, or_true, z_ua, ↓reduceIte, Nat.reduceEqDiff, eq_self, not_true_eq_false, not_false_eq_true, false_implies, true_implies, Classical.not_not, Nat.le_refl, Nat.zero_le, sK10 hS, hg, k5, h3, sG10_8 hS, sK19 hS, sL19 hS]
    try dsimp only
    refine ⟨fun hc => absurd hc (nI_ge (by omega) (by omega)), fun _ => ?_⟩
    refine z_callQ (c51 (I := I') hS hC.1 (Or.inl rfl) hsc1 (show i < N by omega)) (by omega) (by omega) (by omega) (Nat.le_of_ble_eq_true rfl) ?_
    rintro r h' ⟨rfl, I2, rfl, ho2⟩
    rw [h19, ← hT i (by omega)]
    have b16 : I2 16 = I' 16 := ho2.1 16 (by omega) (by omega)
    have b17 : I2 17 = I' 17 := ho2.1 17 (by omega) (by omega)
    -- behind both rows
    have fin : ∀ a b : Int32, a = x_bits T 1 (i + 1) → b = x_bits T 2 (i + 1) → zV X 32 [some (.ref 10), some (.int (nI f)), some (.int (nI (i + 1))), some (.int (T i))] [] (n, K, L, z_u (z_u I2 16 f a) 17 f b, J, G) 0 0 := by
      intro a b ha hb
      refine c103_loop hS hC hj hd hm hs hf hsc0 T hT hQ k (i + 1) _ _ (by omega) ⟨fun q a b c d => ?_, fun k a b => ?_, fun g hg => ⟨?_, ?_⟩⟩ ?_ ?_
      · rw [z_u_ne b, z_u_ne a, ho2.1 q c d]; exact ho.1 q a b c d
      · rw [z_u_ne (by omega), z_u_ne (by omega), ho2.2 k a b]; exact ho.2.1 k a b
      · rw [z_u_ne (by omega), z_u_at, if_neg hg, b16]; exact (ho.2.2 g hg).1
      · rw [z_u_at, if_neg hg, z_u_ne (by omega), b17]; exact (ho.2.2 g hg).2
      · rw [z_u_ne (by omega), z_u_at, if_pos rfl]; exact ha
      · rw [z_u_at, if_pos rfl]; exact hb
    have two : ∀ z : Int32, x_bits T 1 i ||| z = x_bits T 1 (i + 1) → zV X 75 [some (.ref 10), some (.int (nI f)), some (.int (nI i)), some (.int (T i))] [.int z, .int (x_bits T 1 i), .int (nI f), .ref 16] (n, K, L, I2, J, G) 0 0 := by
      intro z hz
      refine zW_ok hj B103_75 75 _ _ _ _ _ b103_75 ?_
      simp only [B103_75, zW, z_wp1, z_ld, z_f0, z_f1, z_f2, z_f3, List.getElem?_cons_zero, List.getElem?_cons_succ, true_and, and_true, Int32.reduceOfInt, z_i10, z_i01, Int32.reduceLT, Int32.reduceLE, Int32.reduceAdd, Int32.reduceSub, z_set, z_set2, z_kil, List.set_cons_zero, List.set_cons_succ, List.take_succ_cons, List.take_zero, List.drop_succ_cons, List.drop_zero, List.reverse_cons, List.reverse_nil, List.nil_append, List.cons_append, List.getD_cons_succ, List.getD_cons_zero, List.getD_nil, List.length_cons, List.length_nil, List.map_cons, List.map_nil, List.sum_cons, List.sum_nil, Nat.reduceAdd, Nat.reduceLeDiff, Value.category, Option.toList, true_or, or_true, z_ua, ↓reduceIte, Nat.reduceEqDiff, eq_self, not_true_eq_false, not_false_eq_true, false_implies, true_implies, Classical.not_not, Nat.le_refl, Nat.zero_le, sK10 hS, sG10_6 hS, sK17 hS, sL17 hS, h1, v1, sK16 hS, sL16 hS, b17, g2]
      try dsimp only
      refine ⟨fun h => ?_, fun h => ?_⟩
      · refine zW_ok hj B103_95 95 _ _ _ _ _ b103_95 ?_
        simp only [B103_95, zW, z_wp1, z_ld, z_f0, z_f1, z_f2, z_f3, List.getElem?_cons_zero, List.getElem?_cons_succ, true_and, and_true, Int32.reduceOfInt, z_i10, z_i01, Int32.reduceLT, Int32.reduceLE, Int32.reduceAdd, Int32.reduceSub, z_set, z_set2, z_kil, List.set_cons_zero, List.set_cons_succ, List.take_succ_cons, List.take_zero, List.drop_succ_cons, List.drop_zero, List.reverse_cons, List.reverse_nil, List.nil_append, List.cons_append, List.getD_cons_succ, List.getD_cons_zero, List.getD_nil, List.length_cons, List.length_nil, List.map_cons, List.map_nil, List.sum_cons, List.sum_nil, Nat.reduceAdd, Nat.reduceLeDiff, Value.category, Option.toList, true_or, or_true, z_ua, ↓reduceIte, Nat.reduceEqDiff, eq_self, not_true_eq_false, not_false_eq_true, false_implies, true_implies, Classical.not_not, Nat.le_refl, Nat.zero_le]
        try dsimp only
        refine zW_ok hj B103_96 96 _ _ _ _ _ b103_96 ?_
        simp only [B103_96, zW, z_wp1, z_ld, z_f0, z_f1, z_f2, z_f3, List.getElem?_cons_zero, List.getElem?_cons_succ, true_and, and_true, Int32.reduceOfInt, z_i10, z_i01, Int32.reduceLT, Int32.reduceLE, Int32.reduceAdd, Int32.reduceSub, z_set, z_set2, z_kil, List.set_cons_zero, List.set_cons_succ, List.take_succ_cons, List.take_zero, List.drop_succ_cons, List.drop_zero, List.reverse_cons, List.reverse_nil, List.nil_append, List.cons_append, List.getD_cons_succ, List.getD_cons_zero, List.getD_nil, List.length_cons, List.length_nil, List.map_cons, List.map_nil, List.sum_cons, List.sum_nil, Nat.reduceAdd, Nat.reduceLeDiff, Value.category, Option.toList, true_or, or_true, z_ua, ↓reduceIte, Nat.reduceEqDiff, eq_self, not_true_eq_false, not_false_eq_true, false_implies, true_implies, Classical.not_not, Nat.le_refl, Nat.zero_le, sK17 hS, sL17 hS, h1, v1, nI_1]
        try dsimp only
        exact fin _ _ hz (by rw [x_bits, if_neg h, Int32.or_zero])
      · refine zW_ok hj B103_96 96 _ _ _ _ _ b103_96 ?_
        simp only [B103_96, zW, z_wp1, z_ld, z_f0, z_f1, z_f2, z_f3, List.getElem?_cons_zero, List.getElem?_cons_succ, true_and, and_true, Int32.reduceOfInt, z_i10, z_i01, Int32.reduceLT, Int32.reduceLE, Int32.reduceAdd, Int32.reduceSub, z_set, z_set2, z_kil, List.set_cons_zero, List.set_cons_succ, List.take_succ_cons, List.take_zero, List.drop_succ_cons, List.drop_zero, List.reverse_cons, List.reverse_nil, List.nil_append, List.cons_append, List.getD_cons_succ, List.getD_cons_zero, List.getD_nil, List.length_cons, List.length_nil, List.map_cons, List.map_nil, List.sum_cons, List.sum_nil, Nat.reduceAdd, Nat.reduceLeDiff, Value.category, Option.toList, true_or, or_true, z_ua, ↓reduceIte, Nat.reduceEqDiff, eq_self, not_true_eq_false, not_false_eq_true, false_implies, true_implies, Classical.not_not, Nat.le_refl, Nat.zero_le, sK17 hS, sL17 hS, h1, v1, nI_1]
        try dsimp only
        exact fin _ _ hz (by rw [x_bits, if_pos h])
    simp only [zW, z_wp1, z_ld, z_f0, z_f1, z_f2, z_f3, List.getElem?_cons_zero, List.getElem?_cons_succ, true_and, and_true, Int32.reduceOfInt, z_i10, z_i01, Int32.reduceLT, Int32.reduceLE, Int32.reduceAdd, Int32.reduceSub, z_set, z_set2, z_kil, List.set_cons_zero, List.set_cons_succ, List.take_succ_cons, List.take_zero, List.drop_succ_cons, List.drop_zero, List.reverse_cons, List.reverse_nil, List.nil_append, List.cons_append, List.getD_cons_succ, List.getD_cons_zero, List.getD_nil, List.length_cons, List.length_nil, List.map_cons, List.map_nil, List.sum_cons, List.sum_nil, Nat.reduceAdd, Nat.reduceLeDiff, Value.category, Option.toList, true_or, or_true, z_ua, ↓reduceIte, Nat.reduceEqDiff, eq_self, not_true_eq_false, not_false_eq_true, false_implies, true_implies, Classical.not_not, Nat.le_refl, Nat.zero_le, sK10 hS, sG10_5 hS, sK16 hS, sL16 hS, h1, v1, b16, g1]
    try dsimp only
    refine ⟨fun h => ?_, fun h => ?_⟩
    · refine zW_ok hj B103_74 74 _ _ _ _ _ b103_74 ?_
      simp only [B103_74, zW, z_wp1, z_ld, z_f0, z_f1, z_f2, z_f3, List.getElem?_cons_zero, List.getElem?_cons_succ, true_and, and_true, Int32.reduceOfInt, z_i10, z_i01, Int32.reduceLT, Int32.reduceLE, Int32.reduceAdd, Int32.reduceSub, z_set, z_set2, z_kil, List.set_cons_zero, List.set_cons_succ, List.take_succ_cons, List.take_zero, List.drop_succ_cons, List.drop_zero, List.reverse_cons, List.reverse_nil, List.nil_append, List.cons_append, List.getD_cons_succ, List.getD_cons_zero, List.getD_nil, List.length_cons, List.length_nil, List.map_cons, List.map_nil, List.sum_cons, List.sum_nil, Nat.reduceAdd, Nat.reduceLeDiff, Value.category, Option.toList, true_or, or_true, z_ua, ↓reduceIte, Nat.reduceEqDiff, eq_self, not_true_eq_false, not_false_eq_true, false_implies, true_implies, Classical.not_not, Nat.le_refl, Nat.zero_le]
      try dsimp only
      exact two _ (by rw [x_bits, if_neg h, Int32.or_zero])
    · exact two _ (by rw [x_bits, if_pos h])
end X6
