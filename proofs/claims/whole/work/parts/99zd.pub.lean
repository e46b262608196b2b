/-! The public methods: what they promise; the small ones -/
/-- behind a public method: its answer, the invariant, the model's places as they were -/
def x_po (n : Nat) (I : Nat → Nat → Int32) (J : Nat → Nat → Int64) (M : Nat → Nat → Int32) (c F N : Nat) (tr : Nat → (Int32 → Int32) → Int32) (rr u : Nat) (v : Value) : Option Value → zH → Prop := fun r h' => r = some v ∧ ∃ n' K' L' I' J' G' cd D ch, h' = (n', K', L', I', J', G') ∧ XI n' K' L' I' J' G' M c F N tr cd D ch rr ∧ u ≤ x_u L' D ∧ (∀ q, 71 ≤ q → q ≤ 102 → I' q = I q ∧ J' q = J q) ∧ n ≤ n'
section PUB
variable {l : Launch} {n : Nat} {K L : Nat → Nat} {I : Nat → Nat → Int32} {J : Nat → Nat → Int64} {G : Nat → Nat → Value} {M : Nat → Nat → Int32} {c F N : Nat} {tr : Nat → (Int32 → Int32) → Int32} {cd : Nat} {D : Nat → Nat} {ch rr : Nat}
theorem XI.up (hx : XI n K L I J G M c F N tr cd D ch rr) (hr : rr < 600) : XI n K L I J G M c F N tr cd D ch (rr + 1) := by
  obtain ⟨⟨a1, a2, a3, a4, a5, a6⟩, h1, h2, h3, h4, h5, h6, h7, h8, ⟨R, r1, r2, r3⟩, h10, k1, R', k2, k3, k4⟩ := hx
  exact ⟨⟨a1, a2, a3, a4, by omega, by omega⟩, h1, h2, h3, h4, h5, h6, h7, h8, ⟨R, r1, by omega, r3⟩, h10, k1, R', k2, by omega, k4⟩
/-- nothing has changed -/
theorem x_po.same (hx : XI n K L I J G M c F N tr cd D ch rr) (hr : rr < 600) {I' : Nat → Nat → Int32} (hx' : XI n K L I' J G M c F N tr cd D ch rr) (hI : ∀ q, 71 ≤ q → q ≤ 102 → I' q = I q) (v : Value) : x_po n I J M c F N tr (rr + 1) (x_u L D) v (some v) (n, K, L, I', J, G) := ⟨rfl, n, K, L, I', J, G, cd, D, ch, rfl, hx'.up hr, Nat.le_refl _, fun q a b => ⟨hI q a b, rfl⟩, Nat.le_refl _⟩
theorem x_po.id (hx : XI n K L I J G M c F N tr cd D ch rr) (hr : rr < 600) (v : Value) : x_po n I J M c F N tr (rr + 1) (x_u L D) v (some v) (n, K, L, I, J, G) := x_po.same hx hr hx (fun _ _ _ => rfl) v
/-- rows cut -/
def x_rwo (I M : Nat → Nat → Int32) (c F N : Nat) (tr : Nat → (Int32 → Int32) → Int32) : Prop := ∀ f, f < F → I 16 f = x_bits (fun i => mTv M c tr i (nI f)) 1 N ∧ I 17 f = x_bits (fun i => mTv M c tr i (nI f)) 2 N
theorem x_rwo.row (h : x_rwo I M c F N tr) (hN : N ≤ 12) {mode : Int32} (hm : mode = 0 ∨ mode = 1) {f : Nat} (hf : f < F) : x_row (I 16) (I 17) mode f = mR M c N tr mode f := l_row (by omega) hm (fun i _ => rfl) (h f hf).1 (h f hf).2
/-- freshen -/
theorem c96x (hx : XI n K L I J G M c F N tr cd D ch rr) : z_Ctr l 5 96 [.ref 10] (n, K, L, I, J, G) 0 0 (fun r h' => r = none ∧ ∃ I', h' = (n, K, L, I', J, G) ∧ XI n K L I' J G M c F N tr cd D ch rr ∧ (∀ q, (20 ≤ q ∧ q ≤ 64) ∨ 69 ≤ q ∨ q ≤ 11 → I' q = I q) ∧ x_rwo I' M c F N tr) := by
  obtain ⟨h0, h1, h2, h3, h4, h5, h6, h7, h8, h9, h10, h11⟩ := hx
  obtain ⟨a1, a2, a3, a4, a5, a6, a7, a8, a9, a10⟩ := h3
  obtain ⟨s1, s2, s3, s4, s5, s6, s7⟩ := h1.1
  refine (c96s (l := l) (n := n) (J := J) h0.1 h0.2.1 a1 s4 a6 a8).mono (fun r h' q => ?_)
  obtain ⟨rfl, I', rfl, ff, g1, g2⟩ := q
  have hcd : cd = 12 ∨ cd = 65 := h0.2.1.1
  have eq : ∀ q, q ≠ 16 → q ≠ 17 → q ≠ 18 → q ≠ 19 → q ≠ 12 → q ≠ 15 → q ≠ 65 → q ≠ 68 → I' q = I q := fun q a b c d e f g h => ff.1 q a b c d (by omega) (by omega)
  have hD : ∀ i, i < 10 → I' (D i) = I (D i) := fun i hi => by
    obtain ⟨p, h1, -, h2, -⟩ := h0.2.2.2.1.pl hi
    have hp : 20 ≤ p ∧ p < 65 := by
      revert h1
      simp only [List.mem_cons, List.not_mem_nil, or_false]
      omega
    exact eq _ (by omega) (by omega) (by omega) (by omega) (by omega) (by omega) (by omega) (by omega)
  have e10 : I' 10 = I 10 := eq 10 (by omega) (by omega) (by omega) (by omega) (by omega) (by omega) (by omega) (by omega)
  have e11 : I' 11 = I 11 := eq 11 (by omega) (by omega) (by omega) (by omega) (by omega) (by omega) (by omega) (by omega)
  have eT := ff.T hcd tr
  have rT : ∀ f, f < F → ∀ i, i < N → x_T I tr f i = mTv M c tr i (nI f) := fun f hf i hi => by
    have := l_tr (I := I) (I' := I) (q := 11) (k := M 71 8) a6 a5 a4 (show f < 16 by omega) hi
    show tr i (x_me (I 11) (I 10 1) f) = _
    rw [a2]
    exact this
  refine ⟨rfl, I', rfl, ⟨h0, h1, h2.cg (fun q _ _ => eq q (by omega) (by omega) (by omega) (by omega) (by omega) (by omega) (by omega) (by omega)), ⟨by rw [e10]; exact a1, by rw [e10]; exact a2, by rw [e10]; exact a3, a4, fun k f m hk hf hm => by rw [e11]; exact a5 k f m hk hf hm, ff.sc hcd a6, a7, fun f hf _ => ?_, fun f hf => by rw [g2 f hf]; exact a9 f hf, by rw [e10]; exact a10⟩, h4.cg (by show I' 5 8 = I 5 8; rw [eq 5 (by omega) (by omega) (by omega) (by omega) (by omega) (by omega) (by omega) (by omega)]) (eq 59 (by omega) (by omega) (by omega) (by omega) (by omega) (by omega) (by omega) (by omega)), h5.cg (eq 60 (by omega) (by omega) (by omega) (by omega) (by omega) (by omega) (by omega) (by omega)), h6.cg (eq 22 (by omega) (by omega) (by omega) (by omega) (by omega) (by omega) (by omega) (by omega)) (hD 0 (by omega)) (hD 1 (by omega)) (hD 3 (by omega)), h7.cg (eq 28 (by omega) (by omega) (by omega) (by omega) (by omega) (by omega) (by omega) (by omega)) (hD 4 (by omega)) (hD 5 (by omega)) (hD 7 (by omega)), h8.cg (eq 34 (by omega) (by omega) (by omega) (by omega) (by omega) (by omega) (by omega) (by omega)) (eq 35 (by omega) (by omega) (by omega) (by omega) (by omega) (by omega) (by omega) (by omega)) (eq 36 (by omega) (by omega) (by omega) (by omega) (by omega) (by omega) (by omega) (by omega)) (eq 37 (by omega) (by omega) (by omega) (by omega) (by omega) (by omega) (by omega) (by omega)), h9.cg (fun q _ _ => eq q (by omega) (by omega) (by omega) (by omega) (by omega) (by omega) (by omega) (by omega)) rfl rfl, h10.cg (fun q _ _ => eq q (by omega) (by omega) (by omega) (by omega) (by omega) (by omega) (by omega) (by omega)), h11.cg (fun q _ _ => eq q (by omega) (by omega) (by omega) (by omega) (by omega) (by omega) (by omega) (by omega)) (hD 9 (by omega))⟩, fun q hq => eq q (by omega) (by omega) (by omega) (by omega) (by omega) (by omega) (by omega) (by omega), fun f hf => ?_⟩
  · rw [eT]; exact ⟨(g1 f hf).1, (g1 f hf).2.1⟩
  · rw [(g1 f hf).1, (g1 f hf).2.1]
    exact ⟨x_bits_congr (fun i hi => rT f hf i hi), x_bits_congr (fun i hi => rT f hf i hi)⟩
theorem XI.S (hx : XI n K L I J G M c F N tr cd D ch rr) : SS K L G := hx.1.1
theorem XI.C (hx : XI n K L I J G M c F N tr cd D ch rr) : XC G cd := hx.1.2.1
theorem XI.fn (hx : XI n K L I J G M c F N tr cd D ch rr) : I 10 0 = nI F ∧ F ≤ 16 ∧ I cd 3 = nI N ∧ N ≤ 12 := ⟨hx.2.2.2.1.1, hx.2.1.1.2.2.2.1, hx.2.2.2.1.2.2.2.2.2.1.1, hx.2.1.1.2.2.2.2.2.1⟩
/-- row -/
theorem d126a (hx : XI n K L I J G M c F N tr cd D ch rr) (hr : rr < 600) {f : Nat} {mode : Int32} (hf : f < F) (hmd : mode = 0 ∨ mode = 1) : z_Ctr l 6 126 [.ref 5, .int (nI f), .int mode] (n, K, L, I, J, G) 0 0 (x_po n I J M c F N tr (rr + 1) (x_u L D) (.int (mR M c N tr mode f))) := by
  have hS : SS K L G := hx.S
  obtain ⟨f1, f2, f3, f4⟩ := hx.fn
  have h1 : (0 : Int32) ≤ nI f ∧ nI f < I 10 0 := ⟨nI_pos' (by omega), by rw [f1]; exact nI_lt hf (by omega)⟩
  refine z_ctr (by decide) (by decide +kernel) (Nat.le_of_ble_eq_true rfl) (by decide +kernel) (fun X hl hj hd hm hs hsc hQ => ?_)
  show zV X 0 [some (.ref 5), some (.int (nI f)), some (.int mode)] [] _ 0 0
  refine zW_ok hj B126_0 0 _ _ _ _ _ b126_0 ?_
  simp only [B126_0, zW, z_wp1, z_ld, z_f0, z_f1, z_f2, z_f3, List.getElem?_cons_zero, List.getElem?_cons_succ, true_and, and_true, Int32.reduceOfInt, z_i10, z_i01, Int32.reduceLT, Int32.reduceLE, Int32.reduceAdd, Int32.reduceSub, z_set, z_set2, z_kil, List.set_cons_zero, List.set_cons_succ, List.take_succ_cons, List.take_zero, List.drop_succ_cons, List.drop_zero, List.reverse_cons, List.reverse_nil, List.nil_append, List.cons_append, List.getD_cons_succ, List.getD_cons_zero, List.getD_nil, List.length_cons, List.length_nil, List.map_cons, List.map_nil, List.sum_cons, List.sum_nil, Nat.reduceAdd, Nat.reduceLeDiff, Value.category, Option.toList, true_or, or_true, z_ua, ↓reduceIte, Nat.reduceEqDiff, eq_self, not_true_eq_false, not_false_eq_true, false_implies, true_implies, Classical.not_not, Nat.le_refl, Nat.zero_le, sK5 hS, sG5_1 hS, sK10 hS]
  try dsimp only
  refine z_callD (c86 (I := I) (J := J) hS (nI f)) (by omega) (by omega) (by omega) (Nat.le_of_ble_eq_true rfl) ?_
  try simp only [zW, z_wp1, z_ld, z_f0, z_f1, z_f2, z_f3, List.getElem?_cons_zero, List.getElem?_cons_succ, true_and, and_true, Int32.reduceOfInt, z_i10, z_i01, Int32.reduceLT, Int32.reduceLE, Int32.reduceAdd, Int32.reduceSub, z_set, z_set2, z_kil, List.set_cons_zero, List.set_cons_succ, List.take_succ_cons, List.take_zero, List.drop_succ_cons, List.drop_zero, List.reverse_cons, List.reverse_nil, List.nil_append, List.cons_append, List.getD_cons_succ, List.getD_cons_zero, List.getD_nil, List.length_cons, List.length_nil, List.map_cons, List.map_nil, List.sum_cons, List.sum_nil, Nat.reduceAdd, Nat.reduceLeDiff, Value.category, Option.toList, true_or, or_true, z_ua, ↓reduceIte, Nat.reduceEqDiff, eq_self, not_true_eq_false, not_false_eq_true, false_implies, true_implies, Classical.not_not, Nat.le_refl, Nat.zero_le, z_b1 h1]
  try dsimp only
  refine z_callD (c155 (h := (n, K, L, I, J, G)) mode) (by omega) (by omega) (by omega) (Nat.le_of_ble_eq_true rfl) ?_
  try simp only [zW, z_wp1, z_ld, z_f0, z_f1, z_f2, z_f3, List.getElem?_cons_zero, List.getElem?_cons_succ, true_and, and_true, Int32.reduceOfInt, z_i10, z_i01, Int32.reduceLT, Int32.reduceLE, Int32.reduceAdd, Int32.reduceSub, z_set, z_set2, z_kil, List.set_cons_zero, List.set_cons_succ, List.take_succ_cons, List.take_zero, List.drop_succ_cons, List.drop_zero, List.reverse_cons, List.reverse_nil, List.nil_append, List.cons_append, List.getD_cons_succ, List.getD_cons_zero, List.getD_nil, List.length_cons, List.length_nil, List.map_cons, List.map_nil, List.sum_cons, List.sum_nil, Nat.reduceAdd, Nat.reduceLeDiff, Value.category, Option.toList, true_or, or_true, z_ua, ↓reduceIte, Nat.reduceEqDiff, eq_self, not_true_eq_false, not_false_eq_true, false_implies, true_implies, Classical.not_not, Nat.le_refl, Nat.zero_le, z_b1 hmd]
  try dsimp only
  refine zW_ok hj B126_20 20 _ _ _ _ _ b126_20 ?_
  simp only [B126_20, zW, z_wp1, z_ld, z_f0, z_f1, z_f2, z_f3, List.getElem?_cons_zero, List.getElem?_cons_succ, true_and, and_true, Int32.reduceOfInt, z_i10, z_i01, Int32.reduceLT, Int32.reduceLE, Int32.reduceAdd, Int32.reduceSub, z_set, z_set2, z_kil, List.set_cons_zero, List.set_cons_succ, List.take_succ_cons, List.take_zero, List.drop_succ_cons, List.drop_zero, List.reverse_cons, List.reverse_nil, List.nil_append, List.cons_append, List.getD_cons_succ, List.getD_cons_zero, List.getD_nil, List.length_cons, List.length_nil, List.map_cons, List.map_nil, List.sum_cons, List.sum_nil, Nat.reduceAdd, Nat.reduceLeDiff, Value.category, Option.toList, true_or, or_true, z_ua, ↓reduceIte, Nat.reduceEqDiff, eq_self, not_true_eq_false, not_false_eq_true, false_implies, true_implies, Classical.not_not, Nat.le_refl, Nat.zero_le, sK5 hS, sG5_1 hS, sK10 hS]
  try dsimp only
  refine z_callQ (c96x hx) (by omega) (by omega) (by omega) (Nat.le_of_ble_eq_true rfl) ?_
  rintro r h' ⟨rfl, I', rfl, hx', hI, hw⟩
  simp only [zW, z_wp1, z_ld, z_f0, z_f1, z_f2, z_f3, List.getElem?_cons_zero, List.getElem?_cons_succ, true_and, and_true, Int32.reduceOfInt, z_i10, z_i01, Int32.reduceLT, Int32.reduceLE, Int32.reduceAdd, Int32.reduceSub, z_set, z_set2, z_kil, List.set_cons_zero, List.set_cons_succ, List.take_succ_cons, List.take_zero, List.drop_succ_cons, List.drop_zero, List.reverse_cons, List.reverse_nil, List.nil_append, List.cons_append, List.getD_cons_succ, List.getD_cons_zero, List.getD_nil, List.length_cons, List.length_nil, List.map_cons, List.map_nil, List.sum_cons, List.sum_nil, Nat.reduceAdd, Nat.reduceLeDiff, Value.category, Option.toList, true_or, or_true, z_ua, ↓reduceIte, Nat.reduceEqDiff, eq_self, not_true_eq_false, not_false_eq_true, false_implies, true_implies, Classical.not_not, Nat.le_refl, Nat.zero_le, sK5 hS, sG5_1 hS, sK10 hS]
  try dsimp only
  refine z_callD (c98 (I := I') (J := J) hS (show f < 16 by omega) mode) (by omega) (by omega) (by omega) (Nat.le_of_ble_eq_true rfl) ?_
  try simp only [zW, z_wp1, z_ld, z_f0, z_f1, z_f2, z_f3, List.getElem?_cons_zero, List.getElem?_cons_succ, true_and, and_true, Int32.reduceOfInt, z_i10, z_i01, Int32.reduceLT, Int32.reduceLE, Int32.reduceAdd, Int32.reduceSub, z_set, z_set2, z_kil, List.set_cons_zero, List.set_cons_succ, List.take_succ_cons, List.take_zero, List.drop_succ_cons, List.drop_zero, List.reverse_cons, List.reverse_nil, List.nil_append, List.cons_append, List.getD_cons_succ, List.getD_cons_zero, List.getD_nil, List.length_cons, List.length_nil, List.map_cons, List.map_nil, List.sum_cons, List.sum_nil, Nat.reduceAdd, Nat.reduceLeDiff, Value.category, Option.toList, true_or, or_true, z_ua, ↓reduceIte, Nat.reduceEqDiff, eq_self, not_true_eq_false, not_false_eq_true, false_implies, true_implies, Classical.not_not, Nat.le_refl, Nat.zero_le]
  try dsimp only
  rw [hw.row f4 hmd hf]
  exact hQ _ _ (x_po.same hx hr hx' (fun q a _ => hI q (by omega)) _)
theorem d126b (hx : XI n K L I J G M c F N tr cd D ch rr) (hr : rr < 600) {f mode : Int32} (h : ¬ ((0 ≤ f ∧ f < nI F) ∧ (mode = 0 ∨ mode = 1))) : z_Ctr l 6 126 [.ref 5, .int f, .int mode] (n, K, L, I, J, G) 0 0 (x_po n I J M c F N tr (rr + 1) (x_u L D) (.int (-1))) := by
  have hS : SS K L G := hx.S
  have f1 : I 10 0 = nI F := hx.fn.1
  refine z_ctr (by decide) (by decide +kernel) (Nat.le_of_ble_eq_true rfl) (by decide +kernel) (fun X hl hj hd hm hs hsc hQ => ?_)
  show zV X 0 [some (.ref 5), some (.int f), some (.int mode)] [] _ 0 0
  have no : zV X 18 [some (.ref 5), some (.int f), some (.int mode)] [] (n, K, L, I, J, G) 0 0 := by
    refine zW_ok hj B126_18 18 _ _ _ _ _ b126_18 ?_
    simp only [B126_18, zW, z_wp1, z_ld, z_f0, z_f1, z_f2, z_f3, List.getElem?_cons_zero, List.getElem?_cons_succ, true_and, and_true, Int32.reduceOfInt, z_i10, z_i01, Int32.reduceLT, Int32.reduceLE, Int32.reduceAdd, Int32.reduceSub, z_set, z_set2, z_kil, List.set_cons_zero, List.set_cons_succ, List.take_succ_cons, List.take_zero, List.drop_succ_cons, List.drop_zero, List.reverse_cons, List.reverse_nil, List.nil_append, List.cons_append, List.getD_cons_succ, List.getD_cons_zero, List.getD_nil, List.length_cons, List.length_nil, List.map_cons, List.map_nil, List.sum_cons, List.sum_nil, Nat.reduceAdd, Nat.reduceLeDiff, Value.category, Option.toList, true_or, or_true, z_ua, ↓reduceIte, Nat.reduceEqDiff, eq_self, not_true_eq_false, not_false_eq_true, false_implies, true_implies, Classical.not_not, Nat.le_refl, Nat.zero_le]
    try dsimp only
    exact hQ _ _ (x_po.id hx hr _)
  refine zW_ok hj B126_0 0 _ _ _ _ _ b126_0 ?_
  simp only [B126_0, zW, z_wp1, z_ld, z_f0, z_f1, z_f2, z_f3, List.getElem?_cons_zero, List.getElem?_cons_succ, true_and, and_true, Int32.reduceOfInt, z_i10, z_i01, Int32.reduceLT, Int32.reduceLE, Int32.reduceAdd, Int32.reduceSub, z_set, z_set2, z_kil, List.set_cons_zero, List.set_cons_succ, List.take_succ_cons, List.take_zero, List.drop_succ_cons, List.drop_zero, List.reverse_cons, List.reverse_nil, List.nil_append, List.cons_append, List.getD_cons_succ, List.getD_cons_zero, List.getD_nil, List.length_cons, List.length_nil, List.map_cons, List.map_nil, List.sum_cons, List.sum_nil, Nat.reduceAdd, Nat.reduceLeDiff, Value.category, Option.toList, true_or, or_true, z_ua, ↓reduceIte, Nat.reduceEqDiff, eq_self, not_true_eq_false, not_false_eq_true, false_implies, true_implies, Classical.not_not, Nat.le_refl, Nat.zero_le, sK5 hS, sG5_1 hS, sK10 hS]
  try dsimp only
  by_cases h1 : 0 ≤ f ∧ f < I 10 0
  · refine z_callD (c86 (I := I) (J := J) hS f) (by omega) (by omega) (by omega) (Nat.le_of_ble_eq_true rfl) ?_
    try simp only [zW, z_wp1, z_ld, z_f0, z_f1, z_f2, z_f3, List.getElem?_cons_zero, List.getElem?_cons_succ, true_and, and_true, Int32.reduceOfInt, z_i10, z_i01, Int32.reduceLT, Int32.reduceLE, Int32.reduceAdd, Int32.reduceSub, z_set, z_set2, z_kil, List.set_cons_zero, List.set_cons_succ, List.take_succ_cons, List.take_zero, List.drop_succ_cons, List.drop_zero, List.reverse_cons, List.reverse_nil, List.nil_append, List.cons_append, List.getD_cons_succ, List.getD_cons_zero, List.getD_nil, List.length_cons, List.length_nil, List.map_cons, List.map_nil, List.sum_cons, List.sum_nil, Nat.reduceAdd, Nat.reduceLeDiff, Value.category, Option.toList, true_or, or_true, z_ua, ↓reduceIte, Nat.reduceEqDiff, eq_self, not_true_eq_false, not_false_eq_true, false_implies, true_implies, Classical.not_not, Nat.le_refl, Nat.zero_le, z_b1 h1]
    try dsimp only
    have h2 : ¬ (mode = 0 ∨ mode = 1) := fun q => h ⟨by rw [f1] at h1; exact h1, q⟩
    refine z_callD (c155 (h := (n, K, L, I, J, G)) mode) (by omega) (by omega) (by omega) (Nat.le_of_ble_eq_true rfl) ?_
    try simp only [zW, z_wp1, z_ld, z_f0, z_f1, z_f2, z_f3, List.getElem?_cons_zero, List.getElem?_cons_succ, true_and, and_true, Int32.reduceOfInt, z_i10, z_i01, Int32.reduceLT, Int32.reduceLE, Int32.reduceAdd, Int32.reduceSub, z_set, z_set2, z_kil, List.set_cons_zero, List.set_cons_succ, List.take_succ_cons, List.take_zero, List.drop_succ_cons, List.drop_zero, List.reverse_cons, List.reverse_nil, List.nil_append, List.cons_append, List.getD_cons_succ, List.getD_cons_zero, List.getD_nil, List.length_cons, List.length_nil, List.map_cons, List.map_nil, List.sum_cons, List.sum_nil, Nat.reduceAdd, Nat.reduceLeDiff, Value.category, Option.toList, true_or, or_true, z_ua, ↓reduceIte, Nat.reduceEqDiff, eq_self, not_true_eq_false, not_false_eq_true, false_implies, true_implies, Classical.not_not, Nat.le_refl, Nat.zero_le, z_b0 h2]
    try dsimp only
    exact no
  · refine z_callD (c86 (I := I) (J := J) hS f) (by omega) (by omega) (by omega) (Nat.le_of_ble_eq_true rfl) ?_
    try simp only [zW, z_wp1, z_ld, z_f0, z_f1, z_f2, z_f3, List.getElem?_cons_zero, List.getElem?_cons_succ, true_and, and_true, Int32.reduceOfInt, z_i10, z_i01, Int32.reduceLT, Int32.reduceLE, Int32.reduceAdd, Int32.reduceSub, z_set, z_set2, z_kil, List.set_cons_zero, List.set_cons_succ, List.take_succ_cons, List.take_zero, List.drop_succ_cons, List.drop_zero, List.reverse_cons, List.reverse_nil, List.nil_append, List.cons_append, List.getD_cons_succ, List.getD_cons_zero, List.getD_nil, List.length_cons, List.length_nil, List.map_cons, List.map_nil, List.sum_cons, List.sum_nil, Nat.reduceAdd, Nat.reduceLeDiff, Value.category, Option.toList, true_or, or_true, z_ua, ↓reduceIte, Nat.reduceEqDiff, eq_self, not_true_eq_false, not_false_eq_true, false_implies, true_implies, Classical.not_not, Nat.le_refl, Nat.zero_le, z_b0 h1]
    try dsimp only
    exact no
end PUB
