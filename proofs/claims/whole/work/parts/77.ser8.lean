/-! Rows of finds of the class: total and findAt -/
theorem nI_neg1 {k : Nat} (h : k < 2 ^ 31) : ¬ nI k = -1 := fun e => by
  have q := nI_pos' h
  rw [e] at q
  exact absurd q (by decide)
section SER8
variable {l : Launch} {n : Nat} {K L : Nat → Nat} {I : Nat → Nat → Int32} {J : Nat → Nat → Int64} {G : Nat → Nat → Value} {ca CL cn bc R t : Nat}
theorem xU_0 (hc : cn ≤ 16) : s_n (xU cn 0) cn = cn := by
  have : ∀ m, m ≤ cn → s_n (xU cn 0) m = m := fun m => by
    induction m with
    | zero => intro _; rfl
    | succ m ih =>
      intro h
      rw [s_n, ih (by omega), xU_lt hc (by omega), zb_nI (by omega), Nat.zero_testBit]
      rfl
  exact this cn (Nat.le_refl _)
theorem c79 (hS : SS K L G) (hX : XZ K L G I J ca CL cn bc R) (hmm : s_memo J ca CL cn R (xV I cn bc)) : z_Ctr l 19 79 [.ref 38] (n, K, L, I, J, G) 0 0 (z_post n K L I J G ca CL cn bc R 0) := by
  obtain ⟨a1, a2, a3, a4, a5, a6, a7, a8, a9, a10, a11, a12, a13, a14⟩ := id hX
  have q := c82 (l := l) (n := n) hS cn 0 (Nat.two_pow_pos cn) (xU_0 a8) J hX hmm
  rw [Nat.sub_self, nI_0] at q
  refine z_ctr (by decide) (by decide +kernel) (Nat.le_of_ble_eq_true rfl) (by decide +kernel) (fun X hl hj hd hm hs hsc hQ => ?_)
  show zV X 0 [some (.ref 38)] [] _ 0 0
  refine zW_ok hj B79_0 0 _ _ _ _ _ b79_0 ?_
  simp only [B79_0, zW, z_wp1, z_ld, z_f0, z_f1, z_f2, z_f3, List.getElem?_cons_zero, List.getElem?_cons_succ, true_and, and_true, Int32.reduceOfInt, z_i10, z_i01, Int32.reduceLT, Int32.reduceLE, Int32.reduceAdd, Int32.reduceSub, z_set, z_set2, z_kil, List.set_cons_zero, List.set_cons_succ, List.take_succ_cons, List.take_zero, List.drop_succ_cons, List.drop_zero, List.reverse_cons, List.reverse_nil, List.nil_append, List.cons_append, List.getD_cons_succ, List.getD_cons_zero, List.getD_nil, List.length_cons, List.length_nil, List.map_cons, List.map_nil, List.sum_cons, List.sum_nil, Nat.reduceAdd, Nat.reduceLeDiff, Value.category, Option.toList, true_or, or_true, z_ua, ↓reduceIte, Nat.reduceEqDiff, eq_self, not_true_eq_false, not_false_eq_true, false_implies, true_implies, Classical.not_not, Nat.le_refl, Nat.zero_le, sK38 hS]
  try dsimp only
  subst hl
  refine z_callQ q (by omega) (by omega) (by omega) (Nat.le_of_ble_eq_true rfl) ?_
  intro r h' hp
  obtain ⟨rfl, J', rfl, o, m⟩ := id hp
  simp only [zW, z_wp1, z_ld, z_f0, z_f1, z_f2, z_f3, List.getElem?_cons_zero, List.getElem?_cons_succ, true_and, and_true, Int32.reduceOfInt, z_i10, z_i01, Int32.reduceLT, Int32.reduceLE, Int32.reduceAdd, Int32.reduceSub, z_set, z_set2, z_kil, List.set_cons_zero, List.set_cons_succ, List.take_succ_cons, List.take_zero, List.drop_succ_cons, List.drop_zero, List.reverse_cons, List.reverse_nil, List.nil_append, List.cons_append, List.getD_cons_succ, List.getD_cons_zero, List.getD_nil, List.length_cons, List.length_nil, List.map_cons, List.map_nil, List.sum_cons, List.sum_nil, Nat.reduceAdd, Nat.reduceLeDiff, Value.category, Option.toList, true_or, or_true, z_ua, ↓reduceIte, Nat.reduceEqDiff, eq_self, not_true_eq_false, not_false_eq_true, false_implies, true_implies, Classical.not_not, Nat.le_refl, Nat.zero_le]
  try dsimp only
  exact hQ _ _ hp
/-- alike sets, one find more each -/
theorem x_next (hX : XZ K L G I J ca CL cn bc R) {y p : Nat} (ht : t < 2 ^ cn) (hy : y < 2 ^ cn) (hE : s_E cn (s_B bc (I 40)) (xU cn t) (xU cn y)) (hp : p < cn) (hu : zb (nI t) p = false) : ∃ q, q < cn ∧ zb (nI y) q = false ∧ (I 41 p &&& (nI y ^^^ -1)) &&& -(I 41 p &&& (nI y ^^^ -1)) = nI (2 ^ q) ∧ nI y ||| nI (2 ^ q) = nI (y ||| 2 ^ q) ∧ y ||| 2 ^ q < 2 ^ cn ∧ s_E cn (s_B bc (I 40)) (xU cn (t ||| 2 ^ p)) (xU cn (y ||| 2 ^ q)) ∧ s_n (xU cn y) cn = s_n (xU cn (y ||| 2 ^ q)) cn + 1 := by
  obtain ⟨a1, a2, a3, a4, a5, a6, a7, a8, a9, a10, a11, a12, a13, a14⟩ := id hX
  have z1 := z_zs a8
  have kb : ∀ q, zb (I 41 p &&& (nI y ^^^ -1)) q = true ↔ q < cn ∧ s_mt (s_B bc (I 40)) p q ∧ zb (nI y) q = false := fun q => by
    rw [z_xn, zb_and, zb_not, Bool.and_eq_true, a14 p hp q]
    constructor
    · rintro ⟨⟨x, y⟩, z⟩
      simp at z
      exact ⟨x, y, z.2⟩
    · rintro ⟨x, y, z⟩
      exact ⟨⟨x, y⟩, by simp [z]; omega⟩
  obtain ⟨q0, c1, c2, c3⟩ := hE.ex hp (by rw [xU_lt a8 hp]; exact hu)
  rw [xU_lt a8 c1] at c3
  obtain ⟨q, -, hq, hlow⟩ := z_low0 ((kb q0).mpr ⟨c1, c2, c3⟩)
  obtain ⟨d1, d2, d3⟩ := (kb q).mp hq
  have h2q : 2 ^ q < 2 ^ 16 := Nat.pow_lt_pow_right (by omega) (by omega)
  have hyq : y ||| 2 ^ q < 2 ^ cn := Nat.or_lt_two_pow hy (Nat.pow_lt_pow_right (by omega) d1)
  have uq : xU cn y q = false := by rw [xU_lt a8 d1]; exact d3
  refine ⟨q, d1, d3, zb_ext (fun i hi => by rw [hlow, ← z_shl1 (show q < 17 by omega), zb_sh1 (by omega)]), nI_or (by omega) (by omega), hyq, ?_, ?_⟩
  · have := hE.add hp (by rw [xU_lt a8 hp]; exact hu) d1 uq d2
    rw [xU, xU, s_u_add (by omega) (by omega), s_u_add (by omega) (by omega)]
    exact this
  · have := s_n_add d1 uq
    rw [this, xU, xU, s_u_add (by omega) (by omega)]
theorem c80_in {X : zX} (hS : SS K L G) (hj : X.2.1 = 80) (hl0 : X.1 = l) (hd : X.2.2.1 = 20) (hmc : X.2.2.2.1 = 0) (hs : X.2.2.2.2.1 = 0) (hX : XZ K L G I J ca CL cn bc R) {y lf m p : Nat} {k : Int64} {i : Int32} (ht : t < 2 ^ cn) (hy : y < 2 ^ cn) (hE : s_E cn (s_B bc (I 40)) (xU cn t) (xU cn y)) (hny : s_n (xU cn y) cn = cn - m) (hmc2 : m < cn) (hp : p < cn) (hop : s_op cn (s_B bc (I 40)) (xU cn t) p) (hp1 : s_sum (s_g cn (s_B bc (I 40)) (xU cn t)) p ≤ lf) (hp2 : lf - s_sum (s_g cn (s_B bc (I 40)) (xU cn t)) p < xV I cn bc (t ||| 2 ^ p)) (hlf : lf < xV I cn bc t)
    (kk : ∀ (J' : Nat → Nat → Int64) (y' : Nat) (x10 x12 x13 : Option Value) (z : Int32), (∀ q, q ≠ ca → J' q = J q) → s_memo J' ca CL cn R (xV I cn bc) → y' < 2 ^ cn → s_E cn (s_B bc (I 40)) (xU cn (t ||| 2 ^ p)) (xU cn y') → s_n (xU cn y') cn = cn - (m + 1) → zV X 165 [some (.ref 38), some (.long k), none, some (.int i), some (.long (lN (lf - s_sum (s_g cn (s_B bc (I 40)) (xU cn t)) p))), none, some (.int (nI (t ||| 2 ^ p))), some (.int (nI y')), some (.int (nI p)), some (.int (nI m)), x10, some (.int z), x12, x13, none] [] (n, K, L, I, J', G) 0 0) : ∀ (f q : Nat) (J' : Nat → Nat → Int64) (x12 x13 : Option Value), q + f = p → (∀ q, q ≠ ca → J' q = J q) → s_memo J' ca CL cn R (xV I cn bc) → zV X 64 [some (.ref 38), some (.long k), none, some (.int i), some (.long (lN (lf - s_sum (s_g cn (s_B bc (I 40)) (xU cn t)) q))), none, some (.int (nI t)), some (.int (nI y)), some (.int (-1)), some (.int (nI m)), some (.int (m_may (I 40) (nI (2 ^ cn - 1)) (nI t) bc)), some (.int (nI q)), x12, x13, none] [] (n, K, L, I, J', G) 0 0 := by
  obtain ⟨a1, a2, a3, a4, a5, a6, a7, a8, a9, a10, a11, a12, a13, a14⟩ := id hX
  have z1 := z_zs a8
  have bV : ∀ q, xV I cn bc q < 2 ^ 45 := fun q => s_V_bd a8
  have := bV t
  have op : ∀ p, zb (m_may (I 40) (nI (2 ^ cn - 1)) (nI t) bc) p = true ↔ s_op cn (s_B bc (I 40)) (xU cn t) p := fun p => m_may_op (xBsub a8 a13) (fun f hf => by rw [z_zs_b a8]; simp; omega)
  have nI1 : ¬ (-1 : Int32) ≠ -1 := fun h => h rfl
  intro f
  induction f with
  | zero =>
    intro q J' x12 x13 hq ho hmm
    have e : q = p := by omega
    subst e
    have hup : zb (nI t) q = false := by rw [← xU_lt a8 hp]; exact hop.1
    obtain ⟨r, r1, r2, r3, r4, r5, r6, r7⟩ := x_next hX ht hy hE hp hup
    have hb1 : m_may (I 40) (nI (2 ^ cn - 1)) (nI t) bc >>> (nI q &&& 31) &&& 1 = 1 := (zb_get1 (by omega)).mpr ((op q).mpr hop)
    have e1 : (nI q).toNatClampNeg = q := nI_clamp (by omega)
    have v1 : vp_in (nI q) 16 := vp_in_nI (by omega) (by omega)
    have o1 := (z_bit1 (t := t) (f := q) (by omega) (by omega)).1
    have eV : xV I cn bc (y ||| 2 ^ r) = xV I cn bc (t ||| 2 ^ q) := r6.V
    have := bV (t ||| 2 ^ q)
    have ci := c82 (l := l) (n := n) hS (cn - (m + 1)) (y ||| 2 ^ r) r5 (by omega) J' (hX.congr ho) hmm
    rw [show cn - (cn - (m + 1)) = m + 1 by omega] at ci
    have nq : ¬ nI q = -1 := nI_neg1 (by omega)
    subst hl0
    refine zW_ok hj B80_64 64 _ _ _ _ _ b80_64 ?_
    simp only [B80_64, zW, z_wp1, z_ld, z_f0, z_f1, z_f2, z_f3, List.getElem?_cons_zero, List.getElem?_cons_succ, true_and, and_true, Int32.reduceOfInt, z_i10, z_i01, Int32.reduceLT, Int32.reduceLE, Int32.reduceAdd, Int32.reduceSub, z_set, z_set2, z_kil, List.set_cons_zero, List.set_cons_succ, List.take_succ_cons, List.take_zero, List.drop_succ_cons, List.drop_zero, List.reverse_cons, List.reverse_nil, List.nil_append, List.cons_append, List.getD_cons_succ, List.getD_cons_zero, List.getD_nil, List.length_cons, List.length_nil, List.map_cons, List.map_nil, List.sum_cons, List.sum_nil, Nat.reduceAdd, Nat.reduceLeDiff, Value.category, Option.toList, true_or, or_true, z_ua, ↓reduceIte, Nat.reduceEqDiff, eq_self, not_true_eq_false, not_false_eq_true, false_implies, true_implies, Classical.not_not, Nat.le_refl, Nat.zero_le, sK38 hS, a7, hb1]
    try dsimp only
    refine ⟨fun h => absurd h (nI_ge (by omega) (by omega)), fun _ => ?_⟩
    refine zW_ok hj B80_92 92 _ _ _ _ _ b80_92 ?_
    simp only [B80_92, zW, z_wp1, z_ld, z_f0, z_f1, z_f2, z_f3, List.getElem?_cons_zero, List.getElem?_cons_succ, true_and, and_true, Int32.reduceOfInt, z_i10, z_i01, Int32.reduceLT, Int32.reduceLE, Int32.reduceAdd, Int32.reduceSub, z_set, z_set2, z_kil, List.set_cons_zero, List.set_cons_succ, List.take_succ_cons, List.take_zero, List.drop_succ_cons, List.drop_zero, List.reverse_cons, List.reverse_nil, List.nil_append, List.cons_append, List.getD_cons_succ, List.getD_cons_zero, List.getD_nil, List.length_cons, List.length_nil, List.map_cons, List.map_nil, List.sum_cons, List.sum_nil, Nat.reduceAdd, Nat.reduceLeDiff, Value.category, Option.toList, true_or, or_true, z_ua, ↓reduceIte, Nat.reduceEqDiff, eq_self, not_true_eq_false, not_false_eq_true, false_implies, true_implies, Classical.not_not, Nat.le_refl, Nat.zero_le, sK38 hS, sG38_8 hS, sK41 hS, sL41 hS, e1, v1]
    try dsimp only
    refine z_callD (c84 (n := n) (K := K) (L := L) (I := I) (J := J') (G := G) (I 41 q &&& (nI y ^^^ -1))) (by omega) (by omega) (by omega) (Nat.le_of_ble_eq_true rfl) ?_
    try simp only [zW, z_wp1, z_ld, z_f0, z_f1, z_f2, z_f3, List.getElem?_cons_zero, List.getElem?_cons_succ, true_and, and_true, Int32.reduceOfInt, z_i10, z_i01, Int32.reduceLT, Int32.reduceLE, Int32.reduceAdd, Int32.reduceSub, z_set, z_set2, z_kil, List.set_cons_zero, List.set_cons_succ, List.take_succ_cons, List.take_zero, List.drop_succ_cons, List.drop_zero, List.reverse_cons, List.reverse_nil, List.nil_append, List.cons_append, List.getD_cons_succ, List.getD_cons_zero, List.getD_nil, List.length_cons, List.length_nil, List.map_cons, List.map_nil, List.sum_cons, List.sum_nil, Nat.reduceAdd, Nat.reduceLeDiff, Value.category, Option.toList, true_or, or_true, z_ua, ↓reduceIte, Nat.reduceEqDiff, eq_self, not_true_eq_false, not_false_eq_true, false_implies, true_implies, Classical.not_not, Nat.le_refl, Nat.zero_le, sK38 hS, r3, r4, nI_1]
    try dsimp only
    refine z_callQ ci (by omega) (by omega) (by omega) (Nat.le_of_ble_eq_true rfl) ?_
    rintro r' h' ⟨rfl, J2, rfl, o2, m2⟩
    have nl : ¬ lN (xV I cn bc (t ||| 2 ^ q)) ≤ lN (lf - s_sum (s_g cn (s_B bc (I 40)) (xU cn t)) q) := fun z => by
      have := (lN_le' (by omega) (by omega)).mp z
      omega
    simp only [zW, z_wp1, z_ld, z_f0, z_f1, z_f2, z_f3, List.getElem?_cons_zero, List.getElem?_cons_succ, true_and, and_true, Int32.reduceOfInt, z_i10, z_i01, Int32.reduceLT, Int32.reduceLE, Int32.reduceAdd, Int32.reduceSub, z_set, z_set2, z_kil, List.set_cons_zero, List.set_cons_succ, List.take_succ_cons, List.take_zero, List.drop_succ_cons, List.drop_zero, List.reverse_cons, List.reverse_nil, List.nil_append, List.cons_append, List.getD_cons_succ, List.getD_cons_zero, List.getD_nil, List.length_cons, List.length_nil, List.map_cons, List.map_nil, List.sum_cons, List.sum_nil, Nat.reduceAdd, Nat.reduceLeDiff, Value.category, Option.toList, true_or, or_true, z_ua, ↓reduceIte, Nat.reduceEqDiff, eq_self, not_true_eq_false, not_false_eq_true, false_implies, true_implies, Classical.not_not, Nat.le_refl, Nat.zero_le, sK38 hS, eV, lg_cmp_ge, nl, o1]
    try dsimp only
    refine zW_ok hj B80_159 159 _ _ _ _ _ b80_159 ?_
    simp only [B80_159, zW, z_wp1, z_ld, z_f0, z_f1, z_f2, z_f3, List.getElem?_cons_zero, List.getElem?_cons_succ, true_and, and_true, Int32.reduceOfInt, z_i10, z_i01, Int32.reduceLT, Int32.reduceLE, Int32.reduceAdd, Int32.reduceSub, z_set, z_set2, z_kil, List.set_cons_zero, List.set_cons_succ, List.take_succ_cons, List.take_zero, List.drop_succ_cons, List.drop_zero, List.reverse_cons, List.reverse_nil, List.nil_append, List.cons_append, List.getD_cons_succ, List.getD_cons_zero, List.getD_nil, List.length_cons, List.length_nil, List.map_cons, List.map_nil, List.sum_cons, List.sum_nil, Nat.reduceAdd, Nat.reduceLeDiff, Value.category, Option.toList, true_or, or_true, z_ua, ↓reduceIte, Nat.reduceEqDiff, eq_self, not_true_eq_false, not_false_eq_true, false_implies, true_implies, Classical.not_not, Nat.le_refl, Nat.zero_le, nI_1]
    try dsimp only
    have fin := kk J2 (y ||| 2 ^ r) (some (.int (m_may (I 40) (nI (2 ^ cn - 1)) (nI t) bc))) (some (.int (nI (y ||| 2 ^ r)))) (some (.long (lN (xV I cn bc (t ||| 2 ^ q))))) (nI (q + 1)) (fun q hq => (o2 q hq).trans (ho q hq)) m2 r5 r6 (by omega)
    refine zW_ok hj B80_64 64 _ _ _ _ _ b80_64 ?_
    simp only [B80_64, zW, z_wp1, z_ld, z_f0, z_f1, z_f2, z_f3, List.getElem?_cons_zero, List.getElem?_cons_succ, true_and, and_true, Int32.reduceOfInt, z_i10, z_i01, Int32.reduceLT, Int32.reduceLE, Int32.reduceAdd, Int32.reduceSub, z_set, z_set2, z_kil, List.set_cons_zero, List.set_cons_succ, List.take_succ_cons, List.take_zero, List.drop_succ_cons, List.drop_zero, List.reverse_cons, List.reverse_nil, List.nil_append, List.cons_append, List.getD_cons_succ, List.getD_cons_zero, List.getD_nil, List.length_cons, List.length_nil, List.map_cons, List.map_nil, List.sum_cons, List.sum_nil, Nat.reduceAdd, Nat.reduceLeDiff, Value.category, Option.toList, true_or, or_true, z_ua, ↓reduceIte, Nat.reduceEqDiff, eq_self, not_true_eq_false, not_false_eq_true, false_implies, true_implies, Classical.not_not, Nat.le_refl, Nat.zero_le, sK38 hS, a7, nq]
    try dsimp only
    exact ⟨fun _ => fin, fun _ => fin⟩
  | succ f ih =>
    intro q J' x12 x13 hq ho hmm
    have hmn := s_sum_mono (g := s_g cn (s_B bc (I 40)) (xU cn t)) (a := q + 1) (b := p) (by omega)
    by_cases hoq : s_op cn (s_B bc (I 40)) (xU cn t) q
    · have hup : zb (nI t) q = false := by rw [← xU_lt a8 (by omega)]; exact hoq.1
      obtain ⟨r, r1, r2, r3, r4, r5, r6, r7⟩ := x_next hX ht hy hE (show q < cn by omega) hup
      have hb1 : m_may (I 40) (nI (2 ^ cn - 1)) (nI t) bc >>> (nI q &&& 31) &&& 1 = 1 := (zb_get1 (by omega)).mpr ((op q).mpr hoq)
      have e1 : (nI q).toNatClampNeg = q := nI_clamp (by omega)
      have v1 : vp_in (nI q) 16 := vp_in_nI (by omega) (by omega)
      have eV : xV I cn bc (y ||| 2 ^ r) = xV I cn bc (t ||| 2 ^ q) := r6.V
      have := bV (t ||| 2 ^ q)
      have ci := c82 (l := l) (n := n) hS (cn - (m + 1)) (y ||| 2 ^ r) r5 (by omega) J' (hX.congr ho) hmm
      rw [show cn - (cn - (m + 1)) = m + 1 by omega] at ci
      have e3 : s_sum (s_g cn (s_B bc (I 40)) (xU cn t)) (q + 1) = s_sum (s_g cn (s_B bc (I 40)) (xU cn t)) q + xV I cn bc (t ||| 2 ^ q) := by
        rw [s_sum, s_g_y hoq, xV, mV, s_u_add (by omega) (by omega)]
      subst hl0
      refine zW_ok hj B80_64 64 _ _ _ _ _ b80_64 ?_
      simp only [B80_64, zW, z_wp1, z_ld, z_f0, z_f1, z_f2, z_f3, List.getElem?_cons_zero, List.getElem?_cons_succ, true_and, and_true, Int32.reduceOfInt, z_i10, z_i01, Int32.reduceLT, Int32.reduceLE, Int32.reduceAdd, Int32.reduceSub, z_set, z_set2, z_kil, List.set_cons_zero, List.set_cons_succ, List.take_succ_cons, List.take_zero, List.drop_succ_cons, List.drop_zero, List.reverse_cons, List.reverse_nil, List.nil_append, List.cons_append, List.getD_cons_succ, List.getD_cons_zero, List.getD_nil, List.length_cons, List.length_nil, List.map_cons, List.map_nil, List.sum_cons, List.sum_nil, Nat.reduceAdd, Nat.reduceLeDiff, Value.category, Option.toList, true_or, or_true, z_ua, ↓reduceIte, Nat.reduceEqDiff, eq_self, not_true_eq_false, not_false_eq_true, false_implies, true_implies, Classical.not_not, Nat.le_refl, Nat.zero_le, sK38 hS, a7, hb1]
      try dsimp only
      refine ⟨fun h => absurd h (nI_ge (by omega) (by omega)), fun _ => ?_⟩
      refine zW_ok hj B80_92 92 _ _ _ _ _ b80_92 ?_
      simp only [B80_92, zW, z_wp1, z_ld, z_f0, z_f1, z_f2, z_f3, List.getElem?_cons_zero, List.getElem?_cons_succ, true_and, and_true, Int32.reduceOfInt, z_i10, z_i01, Int32.reduceLT, Int32.reduceLE, Int32.reduceAdd, Int32.reduceSub, z_set, z_set2, z_kil, List.set_cons_zero, List.set_cons_succ, List.take_succ_cons, List.take_zero, List.drop_succ_cons, List.drop_zero, List.reverse_cons, List.reverse_nil, List.nil_append, List.cons_append, List.getD_cons_succ, List.getD_cons_zero, List.getD_nil, List.length_cons, List.length_nil, List.map_cons, List.map_nil, List.sum_cons, List.sum_nil, Nat.reduceAdd, Nat.reduceLeDiff, Value.category, Option.toList, true_or, or_true, z_ua, ↓reduceIte, Nat.reduceEqDiff, eq_self, not_true_eq_false, not_false_eq_true, false_implies, true_implies, Classical.not_not, Nat.le_refl, Nat.zero_le, sK38 hS, sG38_8 hS, sK41 hS, sL41 hS, e1, v1]
      try dsimp only
      refine z_callD (c84 (n := n) (K := K) (L := L) (I := I) (J := J') (G := G) (I 41 q &&& (nI y ^^^ -1))) (by omega) (by omega) (by omega) (Nat.le_of_ble_eq_true rfl) ?_
      try simp only [zW, z_wp1, z_ld, z_f0, z_f1, z_f2, z_f3, List.getElem?_cons_zero, List.getElem?_cons_succ, true_and, and_true, Int32.reduceOfInt, z_i10, z_i01, Int32.reduceLT, Int32.reduceLE, Int32.reduceAdd, Int32.reduceSub, z_set, z_set2, z_kil, List.set_cons_zero, List.set_cons_succ, List.take_succ_cons, List.take_zero, List.drop_succ_cons, List.drop_zero, List.reverse_cons, List.reverse_nil, List.nil_append, List.cons_append, List.getD_cons_succ, List.getD_cons_zero, List.getD_nil, List.length_cons, List.length_nil, List.map_cons, List.map_nil, List.sum_cons, List.sum_nil, Nat.reduceAdd, Nat.reduceLeDiff, Value.category, Option.toList, true_or, or_true, z_ua, ↓reduceIte, Nat.reduceEqDiff, eq_self, not_true_eq_false, not_false_eq_true, false_implies, true_implies, Classical.not_not, Nat.le_refl, Nat.zero_le, sK38 hS, r3, r4, nI_1]
      try dsimp only
      refine z_callQ ci (by omega) (by omega) (by omega) (Nat.le_of_ble_eq_true rfl) ?_
      rintro r' h' ⟨rfl, J2, rfl, o2, m2⟩
      have nl : lN (xV I cn bc (t ||| 2 ^ q)) ≤ lN (lf - s_sum (s_g cn (s_B bc (I 40)) (xU cn t)) q) := (lN_le' (by omega) (by omega)).mpr (by omega)
      simp only [zW, z_wp1, z_ld, z_f0, z_f1, z_f2, z_f3, List.getElem?_cons_zero, List.getElem?_cons_succ, true_and, and_true, Int32.reduceOfInt, z_i10, z_i01, Int32.reduceLT, Int32.reduceLE, Int32.reduceAdd, Int32.reduceSub, z_set, z_set2, z_kil, List.set_cons_zero, List.set_cons_succ, List.take_succ_cons, List.take_zero, List.drop_succ_cons, List.drop_zero, List.reverse_cons, List.reverse_nil, List.nil_append, List.cons_append, List.getD_cons_succ, List.getD_cons_zero, List.getD_nil, List.length_cons, List.length_nil, List.map_cons, List.map_nil, List.sum_cons, List.sum_nil, Nat.reduceAdd, Nat.reduceLeDiff, Value.category, Option.toList, true_or, or_true, z_ua, ↓reduceIte, Nat.reduceEqDiff, eq_self, not_true_eq_false, not_false_eq_true, false_implies, true_implies, Classical.not_not, Nat.le_refl, Nat.zero_le, sK38 hS, eV, lg_cmp_ge, nl]
      try dsimp only
      refine zW_ok hj B80_152 152 _ _ _ _ _ b80_152 ?_
      simp only [B80_152, zW, z_wp1, z_ld, z_f0, z_f1, z_f2, z_f3, List.getElem?_cons_zero, List.getElem?_cons_succ, true_and, and_true, Int32.reduceOfInt, z_i10, z_i01, Int32.reduceLT, Int32.reduceLE, Int32.reduceAdd, Int32.reduceSub, z_set, z_set2, z_kil, List.set_cons_zero, List.set_cons_succ, List.take_succ_cons, List.take_zero, List.drop_succ_cons, List.drop_zero, List.reverse_cons, List.reverse_nil, List.nil_append, List.cons_append, List.getD_cons_succ, List.getD_cons_zero, List.getD_nil, List.length_cons, List.length_nil, List.map_cons, List.map_nil, List.sum_cons, List.sum_nil, Nat.reduceAdd, Nat.reduceLeDiff, Value.category, Option.toList, true_or, or_true, z_ua, ↓reduceIte, Nat.reduceEqDiff, eq_self, not_true_eq_false, not_false_eq_true, false_implies, true_implies, Classical.not_not, Nat.le_refl, Nat.zero_le, lN_sub (show xV I cn bc (t ||| 2 ^ q) ≤ lf - s_sum (s_g cn (s_B bc (I 40)) (xU cn t)) q by omega)]
      try dsimp only
      refine zW_ok hj B80_159 159 _ _ _ _ _ b80_159 ?_
      simp only [B80_159, zW, z_wp1, z_ld, z_f0, z_f1, z_f2, z_f3, List.getElem?_cons_zero, List.getElem?_cons_succ, true_and, and_true, Int32.reduceOfInt, z_i10, z_i01, Int32.reduceLT, Int32.reduceLE, Int32.reduceAdd, Int32.reduceSub, z_set, z_set2, z_kil, List.set_cons_zero, List.set_cons_succ, List.take_succ_cons, List.take_zero, List.drop_succ_cons, List.drop_zero, List.reverse_cons, List.reverse_nil, List.nil_append, List.cons_append, List.getD_cons_succ, List.getD_cons_zero, List.getD_nil, List.length_cons, List.length_nil, List.map_cons, List.map_nil, List.sum_cons, List.sum_nil, Nat.reduceAdd, Nat.reduceLeDiff, Value.category, Option.toList, true_or, or_true, z_ua, ↓reduceIte, Nat.reduceEqDiff, eq_self, not_true_eq_false, not_false_eq_true, false_implies, true_implies, Classical.not_not, Nat.le_refl, Nat.zero_le, nI_1]
      try dsimp only
      rw [show lf - s_sum (s_g cn (s_B bc (I 40)) (xU cn t)) q - xV I cn bc (t ||| 2 ^ q) = lf - s_sum (s_g cn (s_B bc (I 40)) (xU cn t)) (q + 1) by omega]
      exact ih (q + 1) J2 _ _ (by omega) (fun q hq => (o2 q hq).trans (ho q hq)) m2
    · have hb0 : m_may (I 40) (nI (2 ^ cn - 1)) (nI t) bc >>> (nI q &&& 31) &&& 1 = 0 := (zb_get0 (by omega)).mpr (by
        cases e : zb (m_may (I 40) (nI (2 ^ cn - 1)) (nI t) bc) q with
        | false => rfl
        | true => exact absurd ((op q).mp e) hoq)
      have e3 : s_sum (s_g cn (s_B bc (I 40)) (xU cn t)) (q + 1) = s_sum (s_g cn (s_B bc (I 40)) (xU cn t)) q := by rw [s_sum, s_g_n hoq]; rfl
      have go := ih (q + 1) J' x12 x13 (by omega) ho hmm
      rw [e3] at go
      refine zW_ok hj B80_64 64 _ _ _ _ _ b80_64 ?_
      simp only [B80_64, zW, z_wp1, z_ld, z_f0, z_f1, z_f2, z_f3, List.getElem?_cons_zero, List.getElem?_cons_succ, true_and, and_true, Int32.reduceOfInt, z_i10, z_i01, Int32.reduceLT, Int32.reduceLE, Int32.reduceAdd, Int32.reduceSub, z_set, z_set2, z_kil, List.set_cons_zero, List.set_cons_succ, List.take_succ_cons, List.take_zero, List.drop_succ_cons, List.drop_zero, List.reverse_cons, List.reverse_nil, List.nil_append, List.cons_append, List.getD_cons_succ, List.getD_cons_zero, List.getD_nil, List.length_cons, List.length_nil, List.map_cons, List.map_nil, List.sum_cons, List.sum_nil, Nat.reduceAdd, Nat.reduceLeDiff, Value.category, Option.toList, true_or, or_true, z_ua, ↓reduceIte, Nat.reduceEqDiff, eq_self, not_true_eq_false, not_false_eq_true, false_implies, true_implies, Classical.not_not, Nat.le_refl, Nat.zero_le, sK38 hS, a7, hb0]
      try dsimp only
      refine ⟨fun h => absurd h (nI_ge (by omega) (by omega)), fun _ => ?_⟩
      refine zW_ok hj B80_159 159 _ _ _ _ _ b80_159 ?_
      simp only [B80_159, zW, z_wp1, z_ld, z_f0, z_f1, z_f2, z_f3, List.getElem?_cons_zero, List.getElem?_cons_succ, true_and, and_true, Int32.reduceOfInt, z_i10, z_i01, Int32.reduceLT, Int32.reduceLE, Int32.reduceAdd, Int32.reduceSub, z_set, z_set2, z_kil, List.set_cons_zero, List.set_cons_succ, List.take_succ_cons, List.take_zero, List.drop_succ_cons, List.drop_zero, List.reverse_cons, List.reverse_nil, List.nil_append, List.cons_append, List.getD_cons_succ, List.getD_cons_zero, List.getD_nil, List.length_cons, List.length_nil, List.map_cons, List.map_nil, List.sum_cons, List.sum_nil, Nat.reduceAdd, Nat.reduceLeDiff, Value.category, Option.toList, true_or, or_true, z_ua, ↓reduceIte, Nat.reduceEqDiff, eq_self, not_true_eq_false, not_false_eq_true, false_implies, true_implies, Classical.not_not, Nat.le_refl, Nat.zero_le, nI_1]
      try dsimp only
      exact go
theorem c80_out {X : zX} (hS : SS K L G) (hj : X.2.1 = 80) (hl0 : X.1 = l) (hd : X.2.2.1 = 20) (hmc : X.2.2.2.1 = 0) (hs : X.2.2.2.2.1 = 0) (hX : XZ K L G I J ca CL cn bc R) {k : Int64} {i v : Nat} (hi : i < cn) (hQ : ∀ r h', (r = some (.int (I 39 v)) ∧ ∃ J', h' = (n, K, L, I, J', G) ∧ (∀ q, q ≠ ca → J' q = J q) ∧ s_memo J' ca CL cn R (xV I cn bc)) → X.2.2.2.2.2.2 r h') : ∀ (rem m t y lf : Nat) (J' : Nat → Nat → Int64) (z : Int32) (x10 x11 x12 x13 : Option Value), m + rem = i → (∀ q, q ≠ ca → J' q = J q) → s_memo J' ca CL cn R (xV I cn bc) → t < 2 ^ cn → y < 2 ^ cn → s_E cn (s_B bc (I 40)) (xU cn t) (xU cn y) → s_n (xU cn t) cn = cn - m → s_n (xU cn y) cn = cn - m → lf < xV I cn bc t → s_at cn (s_B bc (I 40)) rem (xU cn t) lf = v →
      zV X 44 [some (.ref 38), some (.long k), none, some (.int (nI i)), some (.long (lN lf)), none, some (.int (nI t)), some (.int (nI y)), some (.int z), some (.int (nI m)), x10, x11, x12, x13, none] [] (n, K, L, I, J', G) 0 0 := by
  obtain ⟨a1, a2, a3, a4, a5, a6, a7, a8, a9, a10, a11, a12, a13, a14⟩ := id hX
  have z1 := z_zs a8
  intro rem
  induction rem with
  | zero =>
    intro m t y lf J' z x10 x11 x12 x13 hr ho hmm ht hy hE hnt hny hlf hv
    obtain ⟨p1, p2, p3, p4⟩ := s_p_ok (u := xU cn t) hlf (show s_n (xU cn t) cn ≠ 0 by omega)
    have hA := s_u_add (s := 2 ^ cn - 1) (t := t) (f := s_p cn (s_B bc (I 40)) (xU cn t) lf) (by omega) (by omega)
    have e1 : (nI v).toNatClampNeg = v := nI_clamp (by rw [s_at] at hv; omega)
    have v1 : vp_in (nI v) 16 := vp_in_nI (by rw [s_at] at hv; omega) (by omega)
    have nm : ¬ nI i < nI m := fun q => by rw [nI_ltI (by omega) (by omega)] at q; omega
    have nm2 : nI i < nI (m + 1) := nI_lt (by omega) (by omega)
    have nv : ¬ nI v = -1 := nI_neg1 (by rw [s_at] at hv; omega)
    refine zW_ok hj B80_44 44 _ _ _ _ _ b80_44 ?_
    simp only [B80_44, zW, z_wp1, z_ld, z_f0, z_f1, z_f2, z_f3, List.getElem?_cons_zero, List.getElem?_cons_succ, true_and, and_true, Int32.reduceOfInt, z_i10, z_i01, Int32.reduceLT, Int32.reduceLE, Int32.reduceAdd, Int32.reduceSub, z_set, z_set2, z_kil, List.set_cons_zero, List.set_cons_succ, List.take_succ_cons, List.take_zero, List.drop_succ_cons, List.drop_zero, List.reverse_cons, List.reverse_nil, List.nil_append, List.cons_append, List.getD_cons_succ, List.getD_cons_zero, List.getD_nil, List.length_cons, List.length_nil, List.map_cons, List.map_nil, List.sum_cons, List.sum_nil, Nat.reduceAdd, Nat.reduceLeDiff, Value.category, Option.toList, true_or, or_true, z_ua, ↓reduceIte, Nat.reduceEqDiff, eq_self, not_true_eq_false, not_false_eq_true, false_implies, true_implies, Classical.not_not, Nat.le_refl, Nat.zero_le, sK38 hS, nm]
    try dsimp only
    refine z_callD (c81 (I := I) (J := J') hS a7 a8 a9 a10 (nI t)) (by omega) (by omega) (by omega) (Nat.le_of_ble_eq_true rfl) ?_
    try simp only [zW, z_wp1, z_ld, z_f0, z_f1, z_f2, z_f3, List.getElem?_cons_zero, List.getElem?_cons_succ, true_and, and_true, Int32.reduceOfInt, z_i10, z_i01, Int32.reduceLT, Int32.reduceLE, Int32.reduceAdd, Int32.reduceSub, z_set, z_set2, z_kil, List.set_cons_zero, List.set_cons_succ, List.take_succ_cons, List.take_zero, List.drop_succ_cons, List.drop_zero, List.reverse_cons, List.reverse_nil, List.nil_append, List.cons_append, List.getD_cons_succ, List.getD_cons_zero, List.getD_nil, List.length_cons, List.length_nil, List.map_cons, List.map_nil, List.sum_cons, List.sum_nil, Nat.reduceAdd, Nat.reduceLeDiff, Value.category, Option.toList, true_or, or_true, z_ua, ↓reduceIte, Nat.reduceEqDiff, eq_self, not_true_eq_false, not_false_eq_true, false_implies, true_implies, Classical.not_not, Nat.le_refl, Nat.zero_le, sK38 hS]
    try dsimp only
    refine (c80_in (J := J') (i := nI i) (k := k) hS hj hl0 hd hmc hs (hX.congr ho) ht hy hE hny (by omega) p1 p2 p3 (by rw [xV, mV, hA]; exact p4) hlf ?_ _ 0 J' x12 x13 (Nat.zero_add _) (fun _ _ => rfl) hmm).weak (by simp only [z_le, nI_0, s_sum, Nat.sub_zero]; simp)
    intro J2 y' x10' x12' x13' z' b1 b2 b3 b4 b5
    rw [s_at] at hv
    rw [hv]
    refine zW_ok hj B80_165 165 _ _ _ _ _ b80_165 ?_
    simp only [B80_165, zW, z_wp1, z_ld, z_f0, z_f1, z_f2, z_f3, List.getElem?_cons_zero, List.getElem?_cons_succ, true_and, and_true, Int32.reduceOfInt, z_i10, z_i01, Int32.reduceLT, Int32.reduceLE, Int32.reduceAdd, Int32.reduceSub, z_set, z_set2, z_kil, List.set_cons_zero, List.set_cons_succ, List.take_succ_cons, List.take_zero, List.drop_succ_cons, List.drop_zero, List.reverse_cons, List.reverse_nil, List.nil_append, List.cons_append, List.getD_cons_succ, List.getD_cons_zero, List.getD_nil, List.length_cons, List.length_nil, List.map_cons, List.map_nil, List.sum_cons, List.sum_nil, Nat.reduceAdd, Nat.reduceLeDiff, Value.category, Option.toList, true_or, or_true, z_ua, ↓reduceIte, Nat.reduceEqDiff, eq_self, not_true_eq_false, not_false_eq_true, false_implies, true_implies, Classical.not_not, Nat.le_refl, Nat.zero_le, nI_1]
    try dsimp only
    refine zW_ok hj B80_44 44 _ _ _ _ _ b80_44 ?_
    simp only [B80_44, zW, z_wp1, z_ld, z_f0, z_f1, z_f2, z_f3, List.getElem?_cons_zero, List.getElem?_cons_succ, true_and, and_true, Int32.reduceOfInt, z_i10, z_i01, Int32.reduceLT, Int32.reduceLE, Int32.reduceAdd, Int32.reduceSub, z_set, z_set2, z_kil, List.set_cons_zero, List.set_cons_succ, List.take_succ_cons, List.take_zero, List.drop_succ_cons, List.drop_zero, List.reverse_cons, List.reverse_nil, List.nil_append, List.cons_append, List.getD_cons_succ, List.getD_cons_zero, List.getD_nil, List.length_cons, List.length_nil, List.map_cons, List.map_nil, List.sum_cons, List.sum_nil, Nat.reduceAdd, Nat.reduceLeDiff, Value.category, Option.toList, true_or, or_true, z_ua, ↓reduceIte, Nat.reduceEqDiff, eq_self, not_true_eq_false, not_false_eq_true, false_implies, true_implies, Classical.not_not, Nat.le_refl, Nat.zero_le, nm2]
    try dsimp only
    refine zW_ok hj B80_171 171 _ _ _ _ _ b80_171 ?_
    simp only [B80_171, zW, z_wp1, z_ld, z_f0, z_f1, z_f2, z_f3, List.getElem?_cons_zero, List.getElem?_cons_succ, true_and, and_true, Int32.reduceOfInt, z_i10, z_i01, Int32.reduceLT, Int32.reduceLE, Int32.reduceAdd, Int32.reduceSub, z_set, z_set2, z_kil, List.set_cons_zero, List.set_cons_succ, List.take_succ_cons, List.take_zero, List.drop_succ_cons, List.drop_zero, List.reverse_cons, List.reverse_nil, List.nil_append, List.cons_append, List.getD_cons_succ, List.getD_cons_zero, List.getD_nil, List.length_cons, List.length_nil, List.map_cons, List.map_nil, List.sum_cons, List.sum_nil, Nat.reduceAdd, Nat.reduceLeDiff, Value.category, Option.toList, true_or, or_true, z_ua, ↓reduceIte, Nat.reduceEqDiff, eq_self, not_true_eq_false, not_false_eq_true, false_implies, true_implies, Classical.not_not, Nat.le_refl, Nat.zero_le, nv]
    try dsimp only
    refine zW_ok hj B80_181 181 _ _ _ _ _ b80_181 ?_
    simp only [B80_181, zW, z_wp1, z_ld, z_f0, z_f1, z_f2, z_f3, List.getElem?_cons_zero, List.getElem?_cons_succ, true_and, and_true, Int32.reduceOfInt, z_i10, z_i01, Int32.reduceLT, Int32.reduceLE, Int32.reduceAdd, Int32.reduceSub, z_set, z_set2, z_kil, List.set_cons_zero, List.set_cons_succ, List.take_succ_cons, List.take_zero, List.drop_succ_cons, List.drop_zero, List.reverse_cons, List.reverse_nil, List.nil_append, List.cons_append, List.getD_cons_succ, List.getD_cons_zero, List.getD_nil, List.length_cons, List.length_nil, List.map_cons, List.map_nil, List.sum_cons, List.sum_nil, Nat.reduceAdd, Nat.reduceLeDiff, Value.category, Option.toList, true_or, or_true, z_ua, ↓reduceIte, Nat.reduceEqDiff, eq_self, not_true_eq_false, not_false_eq_true, false_implies, true_implies, Classical.not_not, Nat.le_refl, Nat.zero_le, sK38 hS, sG38_5 hS, sK39 hS, sL39 hS, e1, v1]
    try dsimp only
    refine zW_ok hj B80_188 188 _ _ _ _ _ b80_188 ?_
    simp only [B80_188, zW, z_wp1, z_ld, z_f0, z_f1, z_f2, z_f3, List.getElem?_cons_zero, List.getElem?_cons_succ, true_and, and_true, Int32.reduceOfInt, z_i10, z_i01, Int32.reduceLT, Int32.reduceLE, Int32.reduceAdd, Int32.reduceSub, z_set, z_set2, z_kil, List.set_cons_zero, List.set_cons_succ, List.take_succ_cons, List.take_zero, List.drop_succ_cons, List.drop_zero, List.reverse_cons, List.reverse_nil, List.nil_append, List.cons_append, List.getD_cons_succ, List.getD_cons_zero, List.getD_nil, List.length_cons, List.length_nil, List.map_cons, List.map_nil, List.sum_cons, List.sum_nil, Nat.reduceAdd, Nat.reduceLeDiff, Value.category, Option.toList, true_or, or_true, z_ua, ↓reduceIte, Nat.reduceEqDiff, eq_self, not_true_eq_false, not_false_eq_true, false_implies, true_implies, Classical.not_not, Nat.le_refl, Nat.zero_le]
    try dsimp only
    exact hQ _ _ ⟨rfl, J2, rfl, fun q hq => (b1 q hq).trans (ho q hq), b2⟩
  | succ rem ih =>
    intro m t y lf J' z x10 x11 x12 x13 hr ho hmm ht hy hE hnt hny hlf hv
    obtain ⟨p1, p2, p3, p4⟩ := s_p_ok (u := xU cn t) hlf (show s_n (xU cn t) cn ≠ 0 by omega)
    have hA := s_u_add (s := 2 ^ cn - 1) (t := t) (f := s_p cn (s_B bc (I 40)) (xU cn t) lf) (by omega) (by omega)
    have nm : ¬ nI i < nI m := fun q => by rw [nI_ltI (by omega) (by omega)] at q; omega
    have hnn := s_n_add p1 p2.1
    refine zW_ok hj B80_44 44 _ _ _ _ _ b80_44 ?_
    simp only [B80_44, zW, z_wp1, z_ld, z_f0, z_f1, z_f2, z_f3, List.getElem?_cons_zero, List.getElem?_cons_succ, true_and, and_true, Int32.reduceOfInt, z_i10, z_i01, Int32.reduceLT, Int32.reduceLE, Int32.reduceAdd, Int32.reduceSub, z_set, z_set2, z_kil, List.set_cons_zero, List.set_cons_succ, List.take_succ_cons, List.take_zero, List.drop_succ_cons, List.drop_zero, List.reverse_cons, List.reverse_nil, List.nil_append, List.cons_append, List.getD_cons_succ, List.getD_cons_zero, List.getD_nil, List.length_cons, List.length_nil, List.map_cons, List.map_nil, List.sum_cons, List.sum_nil, Nat.reduceAdd, Nat.reduceLeDiff, Value.category, Option.toList, true_or, or_true, z_ua, ↓reduceIte, Nat.reduceEqDiff, eq_self, not_true_eq_false, not_false_eq_true, false_implies, true_implies, Classical.not_not, Nat.le_refl, Nat.zero_le, sK38 hS, nm]
    try dsimp only
    refine z_callD (c81 (I := I) (J := J') hS a7 a8 a9 a10 (nI t)) (by omega) (by omega) (by omega) (Nat.le_of_ble_eq_true rfl) ?_
    try simp only [zW, z_wp1, z_ld, z_f0, z_f1, z_f2, z_f3, List.getElem?_cons_zero, List.getElem?_cons_succ, true_and, and_true, Int32.reduceOfInt, z_i10, z_i01, Int32.reduceLT, Int32.reduceLE, Int32.reduceAdd, Int32.reduceSub, z_set, z_set2, z_kil, List.set_cons_zero, List.set_cons_succ, List.take_succ_cons, List.take_zero, List.drop_succ_cons, List.drop_zero, List.reverse_cons, List.reverse_nil, List.nil_append, List.cons_append, List.getD_cons_succ, List.getD_cons_zero, List.getD_nil, List.length_cons, List.length_nil, List.map_cons, List.map_nil, List.sum_cons, List.sum_nil, Nat.reduceAdd, Nat.reduceLeDiff, Value.category, Option.toList, true_or, or_true, z_ua, ↓reduceIte, Nat.reduceEqDiff, eq_self, not_true_eq_false, not_false_eq_true, false_implies, true_implies, Classical.not_not, Nat.le_refl, Nat.zero_le, sK38 hS]
    try dsimp only
    refine (c80_in (J := J') (i := nI i) (k := k) hS hj hl0 hd hmc hs (hX.congr ho) ht hy hE hny (by omega) p1 p2 p3 (by rw [xV, mV, hA]; exact p4) hlf ?_ _ 0 J' x12 x13 (Nat.zero_add _) (fun _ _ => rfl) hmm).weak (by simp only [z_le, nI_0, s_sum, Nat.sub_zero]; simp)
    intro J2 y' x10' x12' x13' z' b1 b2 b3 b4 b5
    rw [s_at] at hv
    refine zW_ok hj B80_165 165 _ _ _ _ _ b80_165 ?_
    simp only [B80_165, zW, z_wp1, z_ld, z_f0, z_f1, z_f2, z_f3, List.getElem?_cons_zero, List.getElem?_cons_succ, true_and, and_true, Int32.reduceOfInt, z_i10, z_i01, Int32.reduceLT, Int32.reduceLE, Int32.reduceAdd, Int32.reduceSub, z_set, z_set2, z_kil, List.set_cons_zero, List.set_cons_succ, List.take_succ_cons, List.take_zero, List.drop_succ_cons, List.drop_zero, List.reverse_cons, List.reverse_nil, List.nil_append, List.cons_append, List.getD_cons_succ, List.getD_cons_zero, List.getD_nil, List.length_cons, List.length_nil, List.map_cons, List.map_nil, List.sum_cons, List.sum_nil, Nat.reduceAdd, Nat.reduceLeDiff, Value.category, Option.toList, true_or, or_true, z_ua, ↓reduceIte, Nat.reduceEqDiff, eq_self, not_true_eq_false, not_false_eq_true, false_implies, true_implies, Classical.not_not, Nat.le_refl, Nat.zero_le, nI_1]
    try dsimp only
    refine ih (m + 1) _ y' _ J2 _ _ _ _ _ (by omega) (fun q hq => (b1 q hq).trans (ho q hq)) b2 (Nat.or_lt_two_pow ht (Nat.pow_lt_pow_right (by omega) p1)) b3 b4 ?_ b5 ?_ ?_
    · rw [xU, hA]
      have : s_n (s_add (s_u (nI (2 ^ cn - 1)) (nI t)) (s_p cn (s_B bc (I 40)) (xU cn t) lf)) cn + 1 = cn - m := by rw [← hnt]; exact hnn.symm
      omega
    · rw [xV, mV, hA]; exact p4
    · rw [← hv, xU, hA]
/-- findAt -/
theorem c80a (hS : SS K L G) (hX : XZ K L G I J ca CL cn bc R) (hmm : s_memo J ca CL cn R (xV I cn bc)) {k i : Nat} (hk : k < 2 ^ 63) (hi : i < cn) : z_Ctr l 20 80 [.ref 38, .long (lN k), .int (nI i)] (n, K, L, I, J, G) 0 0 (fun r h' => r = some (.int (if k < xV I cn bc 0 then I 39 (s_at cn (s_B bc (I 40)) i (xU cn 0) k) else -1)) ∧ ∃ J', h' = (n, K, L, I, J', G) ∧ (∀ q, q ≠ ca → J' q = J q) ∧ s_memo J' ca CL cn R (xV I cn bc)) := by
  obtain ⟨a1, a2, a3, a4, a5, a6, a7, a8, a9, a10, a11, a12, a13, a14⟩ := id hX
  have z1 := z_zs a8
  have k0 : ¬ lN k < 0 := fun q => by
    have := (lN_lt' (a := k) (b := 0) hk (by omega)).mp q
    omega
  have i0 : ¬ nI i < 0 := fun q => by
    have := (nI_ltI (a := i) (b := 0) (by omega) (by omega)).mp q
    omega
  have ic : ¬ nI cn ≤ nI i := nI_ge hi (by omega)
  have bV : xV I cn bc 0 < 2 ^ 45 := s_V_bd a8
  refine z_ctr (by decide) (by decide +kernel) (Nat.le_of_ble_eq_true rfl) (by decide +kernel) (fun X hl hj hd hm hs hsc hQ => ?_)
  show zV X 0 [some (.ref 38), some (.long (lN k)), none, some (.int (nI i)), none, none, none, none, none, none, none, none, none, none, none] [] _ 0 0
  refine zW_ok hj B80_0 0 _ _ _ _ _ b80_0 ?_
  simp only [B80_0, zW, z_wp1, z_ld, z_f0, z_f1, z_f2, z_f3, List.getElem?_cons_zero, List.getElem?_cons_succ, true_and, and_true, Int32.reduceOfInt, z_i10, z_i01, Int32.reduceLT, Int32.reduceLE, Int32.reduceAdd, Int32.reduceSub, z_set, z_set2, z_kil, List.set_cons_zero, List.set_cons_succ, List.take_succ_cons, List.take_zero, List.drop_succ_cons, List.drop_zero, List.reverse_cons, List.reverse_nil, List.nil_append, List.cons_append, List.getD_cons_succ, List.getD_cons_zero, List.getD_nil, List.length_cons, List.length_nil, List.map_cons, List.map_nil, List.sum_cons, List.sum_nil, Nat.reduceAdd, Nat.reduceLeDiff, Value.category, Option.toList, true_or, or_true, z_ua, ↓reduceIte, Nat.reduceEqDiff, eq_self, not_true_eq_false, not_false_eq_true, false_implies, true_implies, Classical.not_not, Nat.le_refl, Nat.zero_le, sK38 hS, i0, a7, ic, lg_cmp_lt, z_l0, k0]
  try dsimp only
  subst hl
  refine z_callQ (c79 hS hX hmm) (by omega) (by omega) (by omega) (Nat.le_of_ble_eq_true rfl) ?_
  rintro r h' ⟨rfl, J1, rfl, o1, m1⟩
  simp only [zW, z_wp1, z_ld, z_f0, z_f1, z_f2, z_f3, List.getElem?_cons_zero, List.getElem?_cons_succ, true_and, and_true, Int32.reduceOfInt, z_i10, z_i01, Int32.reduceLT, Int32.reduceLE, Int32.reduceAdd, Int32.reduceSub, z_set, z_set2, z_kil, List.set_cons_zero, List.set_cons_succ, List.take_succ_cons, List.take_zero, List.drop_succ_cons, List.drop_zero, List.reverse_cons, List.reverse_nil, List.nil_append, List.cons_append, List.getD_cons_succ, List.getD_cons_zero, List.getD_nil, List.length_cons, List.length_nil, List.map_cons, List.map_nil, List.sum_cons, List.sum_nil, Nat.reduceAdd, Nat.reduceLeDiff, Value.category, Option.toList, true_or, or_true, z_ua, ↓reduceIte, Nat.reduceEqDiff, eq_self, not_true_eq_false, not_false_eq_true, false_implies, true_implies, Classical.not_not, Nat.le_refl, Nat.zero_le, sK38 hS, lg_cmp_lt, lN_lt' hk (show xV I cn bc 0 < 2 ^ 63 by omega)]
  try dsimp only
  refine ⟨fun hl => ?_, fun hl => ?_⟩
  · rw [if_pos hl] at hQ
    refine zW_ok hj B80_29 29 _ _ _ _ _ b80_29 ?_
    simp only [B80_29, zW, z_wp1, z_ld, z_f0, z_f1, z_f2, z_f3, List.getElem?_cons_zero, List.getElem?_cons_succ, true_and, and_true, Int32.reduceOfInt, z_i10, z_i01, Int32.reduceLT, Int32.reduceLE, Int32.reduceAdd, Int32.reduceSub, z_set, z_set2, z_kil, List.set_cons_zero, List.set_cons_succ, List.take_succ_cons, List.take_zero, List.drop_succ_cons, List.drop_zero, List.reverse_cons, List.reverse_nil, List.nil_append, List.cons_append, List.getD_cons_succ, List.getD_cons_zero, List.getD_nil, List.length_cons, List.length_nil, List.map_cons, List.map_nil, List.sum_cons, List.sum_nil, Nat.reduceAdd, Nat.reduceLeDiff, Value.category, Option.toList, true_or, or_true, z_ua, ↓reduceIte, Nat.reduceEqDiff, eq_self, not_true_eq_false, not_false_eq_true, false_implies, true_implies, Classical.not_not, Nat.le_refl, Nat.zero_le]
    try dsimp only
    refine (c80_out (J := J) (k := lN k) (i := i) hS hj rfl hd hm hs hX hi hQ i 0 0 0 k J1 (-1) none none none none (by omega) o1 m1 (Nat.two_pow_pos cn) (Nat.two_pow_pos cn) (s_E.refl _) (xU_0 a8) (xU_0 a8) hl rfl).weak (by simp only [z_le, nI_0]; simp)
  · refine zW_ok hj B80_27 27 _ _ _ _ _ b80_27 ?_
    simp only [B80_27, zW, z_wp1, z_ld, z_f0, z_f1, z_f2, z_f3, List.getElem?_cons_zero, List.getElem?_cons_succ, true_and, and_true, Int32.reduceOfInt, z_i10, z_i01, Int32.reduceLT, Int32.reduceLE, Int32.reduceAdd, Int32.reduceSub, z_set, z_set2, z_kil, List.set_cons_zero, List.set_cons_succ, List.take_succ_cons, List.take_zero, List.drop_succ_cons, List.drop_zero, List.reverse_cons, List.reverse_nil, List.nil_append, List.cons_append, List.getD_cons_succ, List.getD_cons_zero, List.getD_nil, List.length_cons, List.length_nil, List.map_cons, List.map_nil, List.sum_cons, List.sum_nil, Nat.reduceAdd, Nat.reduceLeDiff, Value.category, Option.toList, true_or, or_true, z_ua, ↓reduceIte, Nat.reduceEqDiff, eq_self, not_true_eq_false, not_false_eq_true, false_implies, true_implies, Classical.not_not, Nat.le_refl, Nat.zero_le]
    try dsimp only
    exact hQ _ _ ⟨by rw [if_neg hl], J1, rfl, o1, m1⟩
theorem c80b (hS : SS K L G) (h4 : I 38 4 = nI cn) {k : Int64} {i : Int32} (h : ¬ (0 ≤ i ∧ i < nI cn ∧ 0 ≤ k)) : z_D l 20 80 [.ref 38, .long k, .int i] (n, K, L, I, J, G) (some (.int (-1))) (n, K, L, I, J, G) := by
  refine z_ctr (by decide) (by decide +kernel) (Nat.le_of_ble_eq_true rfl) (by decide +kernel) (fun X hl hj hd hm hs hsc hQ => ?_)
  show zV X 0 [some (.ref 38), some (.long k), none, some (.int i), none, none, none, none, none, none, none, none, none, none, none] [] _ 0 0
  have no : zV X 27 [some (.ref 38), some (.long k), none, some (.int i), none, none, none, none, none, none, none, none, none, none, none] [] (n, K, L, I, J, G) 0 0 := by
    refine zW_ok hj B80_27 27 _ _ _ _ _ b80_27 ?_
    simp only [B80_27, zW, z_wp1, z_ld, z_f0, z_f1, z_f2, z_f3, List.getElem?_cons_zero, List.getElem?_cons_succ, true_and, and_true, Int32.reduceOfInt, z_i10, z_i01, Int32.reduceLT, Int32.reduceLE, Int32.reduceAdd, Int32.reduceSub, z_set, z_set2, z_kil, List.set_cons_zero, List.set_cons_succ, List.take_succ_cons, List.take_zero, List.drop_succ_cons, List.drop_zero, List.reverse_cons, List.reverse_nil, List.nil_append, List.cons_append, List.getD_cons_succ, List.getD_cons_zero, List.getD_nil, List.length_cons, List.length_nil, List.map_cons, List.map_nil, List.sum_cons, List.sum_nil, Nat.reduceAdd, Nat.reduceLeDiff, Value.category, Option.toList, true_or, or_true, z_ua, ↓reduceIte, Nat.reduceEqDiff, eq_self, not_true_eq_false, not_false_eq_true, false_implies, true_implies, Classical.not_not, Nat.le_refl, Nat.zero_le]
    try dsimp only
    exact hQ _ _ ⟨rfl, rfl⟩
  refine zW_ok hj B80_0 0 _ _ _ _ _ b80_0 ?_
  simp only [B80_0, zW, z_wp1, z_ld, z_f0, z_f1, z_f2, z_f3, List.getElem?_cons_zero, List.getElem?_cons_succ, true_and, and_true, Int32.reduceOfInt, z_i10, z_i01, Int32.reduceLT, Int32.reduceLE, Int32.reduceAdd, Int32.reduceSub, z_set, z_set2, z_kil, List.set_cons_zero, List.set_cons_succ, List.take_succ_cons, List.take_zero, List.drop_succ_cons, List.drop_zero, List.reverse_cons, List.reverse_nil, List.nil_append, List.cons_append, List.getD_cons_succ, List.getD_cons_zero, List.getD_nil, List.length_cons, List.length_nil, List.map_cons, List.map_nil, List.sum_cons, List.sum_nil, Nat.reduceAdd, Nat.reduceLeDiff, Value.category, Option.toList, true_or, or_true, z_ua, ↓reduceIte, Nat.reduceEqDiff, eq_self, not_true_eq_false, not_false_eq_true, false_implies, true_implies, Classical.not_not, Nat.le_refl, Nat.zero_le, sK38 hS, h4, lg_cmp_lt, z_l0]
  try dsimp only
  refine ⟨fun _ => no, fun h1 => ⟨fun _ => no, fun h2 => ⟨fun _ => no, fun h3 => absurd ⟨Int32.not_lt.mp h1, Int32.not_le.mp h2, Int64.not_lt.mp h3⟩ h⟩⟩⟩
end SER8
