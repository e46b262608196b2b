/-! The class: exploring -/
theorem zb_m1 (i : Nat) : zb (-1) i = decide (i < 32) := by
  have e : (-1 : Int32) = ~~~ (0 : Int32) := by decide
  rw [e, zb_not, zb_0]
  simp
theorem z_xn (x : Int32) : x ^^^ (-1) = ~~~ x := zb_ext (fun i hi => by rw [zb_xor, zb_m1, zb_not]; simp [hi])
theorem z_dsub {s r : Int32} : s &&& (r ^^^ (-1)) = 0 ↔ r &&& s = s := by rw [z_xn, zb_dif, zb_sub]
theorem z_dsub' {s r : Int32} : s &&& (r ^^^ (-1)) = 0 ↔ s &&& r = s := by rw [z_xn, zb_dif, zb_sub']
theorem m_clo_stay {row : Nat → Int32} {s a0 : Int32} {i : Nat} (h : m_clo row s a0 i = s) : ∀ k, m_clo row s a0 (i + k) = s
  | 0 => h
  | k + 1 => by
    rw [show i + (k + 1) = (i + k) + 1 by omega, m_clo, m_clo_stay h k]
    split
    · rename_i hc
      rw [Int32.and_comm]
      exact hc
    · rfl
/-- an exploring of the class -/
def x_ex (I : Nat → Nat → Int32) (EN E A v0 : Nat) : Prop := I 34 1 = nI EN ∧ I 34 2 = nI (2 ^ EN) ∧ EN ≤ 12 ∧ I 34 4 = nI E ∧ E ≤ 40 ∧ I 34 7 = nI A ∧ A ≤ 60 ∧ I 34 8 = nI v0 ∧ v0 ≤ 2 ^ EN
abbrev x_ecl (I : Nat → Nat → Int32) (EN E : Nat) (s : Int32) : Int32 := m_clo (I 35) s (nI (2 ^ EN) - 1) E
abbrev x_ekp (I : Nat → Nat → Int32) (A : Nat) (s : Int32) : Prop := m_keeps (I 36) (I 37) s A
/-- only what the search itself holds is another -/
def x_eo (I I' : Nat → Nat → Int32) : Prop := (∀ q, q ≠ 34 → I' q = I q) ∧ ∀ k, k ≠ 8 → k ≠ 9 → I' 34 k = I 34 k
section X8
variable {l : Launch} {n : Nat} {K L : Nat → Nat} {I : Nat → Nat → Int32} {J : Nat → Nat → Int64} {G : Nat → Nat → Value} {EN E A v0 : Nat}
theorem c17_loop {X : zX} (hS : SS K L G) (hj : X.2.1 = 17) {s a0 : Int32} (hE : I 34 4 = nI E) (hE4 : E ≤ 40) (hQ : ∀ r h', r = some (.int (m_clo (I 35) s a0 E)) ∧ h' = (n, K, L, I, J, G) → X.2.2.2.2.2.2 r h') : ∀ k i : Nat, i + k = E → zV X 9 [some (.ref 34), some (.int s), some (.int (m_clo (I 35) s a0 i)), some (.int (nI i))] [] (n, K, L, I, J, G) 0 0
  | 0, i, hi => by
    have e : i = E := by omega
    subst e
    refine zW_ok hj B17_9 9 _ _ _ _ _ b17_9 ?_
    simp only [B17_9, zW, z_wp1, z_ld, z_f0, z_f1, z_f2, z_f3, List.getElem?_cons_zero, List.getElem?_cons_succ, true_and, and_true, Int32.reduceOfInt, z_i10, z_i01, Int32.reduceLT, Int32.reduceLE, Int32.reduceAdd, Int32.reduceSub, z_set, z_set2, z_kil, List.set_cons_zero, List.set_cons_succ, List.take_succ_cons, List.take_zero, List.drop_succ_cons, List.drop_zero, List.reverse_cons, List.reverse_nil, List.nil_append, List.cons_append, List.getD_cons_succ, List.getD_cons_zero, List.getD_nil, List.length_cons, List.length_nil, List.map_cons, List.map_nil, List.sum_cons, List.sum_nil, Nat.reduceAdd, Nat.reduceLeDiff, Value.category, Option.toList, true_or, or_true, z_ua, ↓reduceIte, Nat.reduceEqDiff, eq_self, not_true_eq_false, not_false_eq_true, false_implies, true_implies, Classical.not_not, Nat.le_refl, Nat.zero_le, sK34 hS, hE]
    try dsimp only
    refine ⟨fun _ => ?_, fun hc => absurd (nI_le (Nat.le_refl _) (by omega)) hc⟩
    refine zW_ok hj B17_50 50 _ _ _ _ _ b17_50 ?_
    simp only [B17_50, zW, z_wp1, z_ld, z_f0, z_f1, z_f2, z_f3, List.getElem?_cons_zero, List.getElem?_cons_succ, true_and, and_true, Int32.reduceOfInt, z_i10, z_i01, Int32.reduceLT, Int32.reduceLE, Int32.reduceAdd, Int32.reduceSub, z_set, z_set2, z_kil, List.set_cons_zero, List.set_cons_succ, List.take_succ_cons, List.take_zero, List.drop_succ_cons, List.drop_zero, List.reverse_cons, List.reverse_nil, List.nil_append, List.cons_append, List.getD_cons_succ, List.getD_cons_zero, List.getD_nil, List.length_cons, List.length_nil, List.map_cons, List.map_nil, List.sum_cons, List.sum_nil, Nat.reduceAdd, Nat.reduceLeDiff, Value.category, Option.toList, true_or, or_true, z_ua, ↓reduceIte, Nat.reduceEqDiff, eq_self, not_true_eq_false, not_false_eq_true, false_implies, true_implies, Classical.not_not, Nat.le_refl, Nat.zero_le]
    try dsimp only
    exact hQ _ _ ⟨rfl, rfl⟩
  | k + 1, i, hi => by
    have e2 : (nI i).toNatClampNeg = i := nI_clamp (by omega)
    have e3 : vp_in (nI i) 40 := vp_in_nI (by omega) (by omega)
    have go : ∀ a : Int32, a = m_clo (I 35) s a0 (i + 1) → zV X 44 [some (.ref 34), some (.int s), some (.int a), some (.int (nI i))] [] (n, K, L, I, J, G) 0 0 := fun a ha => by
      subst ha
      refine zW_ok hj B17_44 44 _ _ _ _ _ b17_44 ?_
      simp only [B17_44, zW, z_wp1, z_ld, z_f0, z_f1, z_f2, z_f3, List.getElem?_cons_zero, List.getElem?_cons_succ, true_and, and_true, Int32.reduceOfInt, z_i10, z_i01, Int32.reduceLT, Int32.reduceLE, Int32.reduceAdd, Int32.reduceSub, z_set, z_set2, z_kil, List.set_cons_zero, List.set_cons_succ, List.take_succ_cons, List.take_zero, List.drop_succ_cons, List.drop_zero, List.reverse_cons, List.reverse_nil, List.nil_append, List.cons_append, List.getD_cons_succ, List.getD_cons_zero, List.getD_nil, List.length_cons, List.length_nil, List.map_cons, List.map_nil, List.sum_cons, List.sum_nil, Nat.reduceAdd, Nat.reduceLeDiff, Value.category, Option.toList, true_or, or_true, z_ua, ↓reduceIte, Nat.reduceEqDiff, eq_self, not_true_eq_false, not_false_eq_true, false_implies, true_implies, Classical.not_not, Nat.le_refl, Nat.zero_le, nI_1]
      try dsimp only
      exact c17_loop hS hj hE hE4 hQ k (i + 1) (by omega)
    refine zW_ok hj B17_9 9 _ _ _ _ _ b17_9 ?_
    simp only [B17_9, zW, z_wp1, z_ld, z_f0, z_f1, z_f2, z_f3, List.getElem?_cons_zero, List.getElem?_cons_succ, true_and, and_true, Int32.reduceOfInt, z_i10, z_i01, Int32.reduceLT, Int32.reduceLE, Int32.reduceAdd, Int32.reduceSub, z_set, z_set2, z_kil, List.set_cons_zero, List.set_cons_succ, List.take_succ_cons, List.take_zero, List.drop_succ_cons, List.drop_zero, List.reverse_cons, List.reverse_nil, List.nil_append, List.cons_append, List.getD_cons_succ, List.getD_cons_zero, List.getD_nil, List.length_cons, List.length_nil, List.map_cons, List.map_nil, List.sum_cons, List.sum_nil, Nat.reduceAdd, Nat.reduceLeDiff, Value.category, Option.toList, true_or, or_true, z_ua, ↓reduceIte, Nat.reduceEqDiff, eq_self, not_true_eq_false, not_false_eq_true, false_implies, true_implies, Classical.not_not, Nat.le_refl, Nat.zero_le, sK34 hS, hE, sG34_3 hS, sK35 hS, sL35 hS, e2, e3, z_dsub]
    try dsimp only
    refine ⟨fun hc => absurd hc (nI_ge (by omega) (by omega)), fun _ => ⟨fun h0 => ?_, fun h0 => ⟨fun h1 => go _ ?_, fun h1 => go _ ?_⟩⟩⟩
    · have e := m_clo_stay h0 (k + 1)
      rw [show i + (k + 1) = E by omega] at e
      refine zW_ok hj B17_50 50 _ _ _ _ _ b17_50 ?_
      simp only [B17_50, zW, z_wp1, z_ld, z_f0, z_f1, z_f2, z_f3, List.getElem?_cons_zero, List.getElem?_cons_succ, true_and, and_true, Int32.reduceOfInt, z_i10, z_i01, Int32.reduceLT, Int32.reduceLE, Int32.reduceAdd, Int32.reduceSub, z_set, z_set2, z_kil, List.set_cons_zero, List.set_cons_succ, List.take_succ_cons, List.take_zero, List.drop_succ_cons, List.drop_zero, List.reverse_cons, List.reverse_nil, List.nil_append, List.cons_append, List.getD_cons_succ, List.getD_cons_zero, List.getD_nil, List.length_cons, List.length_nil, List.map_cons, List.map_nil, List.sum_cons, List.sum_nil, Nat.reduceAdd, Nat.reduceLeDiff, Value.category, Option.toList, true_or, or_true, z_ua, ↓reduceIte, Nat.reduceEqDiff, eq_self, not_true_eq_false, not_false_eq_true, false_implies, true_implies, Classical.not_not, Nat.le_refl, Nat.zero_le]
      try dsimp only
      exact hQ _ _ ⟨by rw [h0, e], rfl⟩
    · rw [m_clo, if_neg h1]
    · rw [m_clo, if_pos h1]
theorem c17 (hS : SS K L G) (hex : x_ex I EN E A v0) (s : Int32) : z_D l 0 17 [.ref 34, .int s] (n, K, L, I, J, G) (some (.int (x_ecl I EN E s))) (n, K, L, I, J, G) := by
  obtain ⟨x1, x2, x3, x4, x5, x6, x7, x8, x9⟩ := hex
  refine z_ctr (by decide) (by decide +kernel) (Nat.le_of_ble_eq_true rfl) (by decide +kernel) (fun X hl hj hd hm hs hsc hQ => ?_)
  show zV X 0 [some (.ref 34), some (.int s), none, none] [] _ 0 0
  refine zW_ok hj B17_0 0 _ _ _ _ _ b17_0 ?_
  simp only [B17_0, zW, z_wp1, z_ld, z_f0, z_f1, z_f2, z_f3, List.getElem?_cons_zero, List.getElem?_cons_succ, true_and, and_true, Int32.reduceOfInt, z_i10, z_i01, Int32.reduceLT, Int32.reduceLE, Int32.reduceAdd, Int32.reduceSub, z_set, z_set2, z_kil, List.set_cons_zero, List.set_cons_succ, List.take_succ_cons, List.take_zero, List.drop_succ_cons, List.drop_zero, List.reverse_cons, List.reverse_nil, List.nil_append, List.cons_append, List.getD_cons_succ, List.getD_cons_zero, List.getD_nil, List.length_cons, List.length_nil, List.map_cons, List.map_nil, List.sum_cons, List.sum_nil, Nat.reduceAdd, Nat.reduceLeDiff, Value.category, Option.toList, true_or, or_true, z_ua, ↓reduceIte, Nat.reduceEqDiff, eq_self, not_true_eq_false, not_false_eq_true, false_implies, true_implies, Classical.not_not, Nat.le_refl, Nat.zero_le, sK34 hS, x2]
  try dsimp only
  exact c17_loop hS hj x4 x5 hQ E 0 (by omega)
theorem c18_loop {X : zX} (hS : SS K L G) (hj : X.2.1 = 18) {set : Int32} (hN : I 34 7 = nI A) (hN16 : A ≤ 60) [Decidable (x_ekp I A set)] (hQ : ∀ r h', r = some (.int (z_b (x_ekp I A set))) ∧ h' = (n, K, L, I, J, G) → X.2.2.2.2.2.2 r h') : ∀ k i : Nat, i + k = A → m_keeps (I 36) (I 37) set i → zV X 2 [some (.ref 34), some (.int set), some (.int (nI i))] [] (n, K, L, I, J, G) 0 0
  | 0, i, hi, hk => by
    have e : i = A := by omega
    subst e
    refine zW_ok hj B18_2 2 _ _ _ _ _ b18_2 ?_
    simp only [B18_2, zW, z_wp1, z_ld, z_f0, z_f1, z_f2, z_f3, List.getElem?_cons_zero, List.getElem?_cons_succ, true_and, and_true, Int32.reduceOfInt, z_i10, z_i01, Int32.reduceLT, Int32.reduceLE, Int32.reduceAdd, Int32.reduceSub, z_set, z_set2, z_kil, List.set_cons_zero, List.set_cons_succ, List.take_succ_cons, List.take_zero, List.drop_succ_cons, List.drop_zero, List.reverse_cons, List.reverse_nil, List.nil_append, List.cons_append, List.getD_cons_succ, List.getD_cons_zero, List.getD_nil, List.length_cons, List.length_nil, List.map_cons, List.map_nil, List.sum_cons, List.sum_nil, Nat.reduceAdd, Nat.reduceLeDiff, Value.category, Option.toList, true_or, or_true, z_ua, ↓reduceIte, Nat.reduceEqDiff, eq_self, not_true_eq_false, not_false_eq_true, false_implies, true_implies, Classical.not_not, Nat.le_refl, Nat.zero_le, sK34 hS, hN]
    try dsimp only
    refine ⟨fun _ => ?_, fun hc => absurd (nI_le (Nat.le_refl _) (by omega)) hc⟩
    refine zW_ok hj B18_44 44 _ _ _ _ _ b18_44 ?_
    simp only [B18_44, zW, z_wp1, z_ld, z_f0, z_f1, z_f2, z_f3, List.getElem?_cons_zero, List.getElem?_cons_succ, true_and, and_true, Int32.reduceOfInt, z_i10, z_i01, Int32.reduceLT, Int32.reduceLE, Int32.reduceAdd, Int32.reduceSub, z_set, z_set2, z_kil, List.set_cons_zero, List.set_cons_succ, List.take_succ_cons, List.take_zero, List.drop_succ_cons, List.drop_zero, List.reverse_cons, List.reverse_nil, List.nil_append, List.cons_append, List.getD_cons_succ, List.getD_cons_zero, List.getD_nil, List.length_cons, List.length_nil, List.map_cons, List.map_nil, List.sum_cons, List.sum_nil, Nat.reduceAdd, Nat.reduceLeDiff, Value.category, Option.toList, true_or, or_true, z_ua, ↓reduceIte, Nat.reduceEqDiff, eq_self, not_true_eq_false, not_false_eq_true, false_implies, true_implies, Classical.not_not, Nat.le_refl, Nat.zero_le]
    try dsimp only
    exact hQ _ _ ⟨by rw [z_b1 hk], rfl⟩
  | k + 1, i, hi, hk => by
    have e2 : (nI i).toNatClampNeg = i := nI_clamp (by omega)
    have e3 : vp_in (nI i) 60 := vp_in_nI (by omega) (by omega)
    have go : (I 36 i &&& set = I 36 i → I 37 i &&& set = I 37 i) → zV X 38 [some (.ref 34), some (.int set), some (.int (nI i))] [] (n, K, L, I, J, G) 0 0 := fun ha => by
      refine zW_ok hj B18_38 38 _ _ _ _ _ b18_38 ?_
      simp only [B18_38, zW, z_wp1, z_ld, z_f0, z_f1, z_f2, z_f3, List.getElem?_cons_zero, List.getElem?_cons_succ, true_and, and_true, Int32.reduceOfInt, z_i10, z_i01, Int32.reduceLT, Int32.reduceLE, Int32.reduceAdd, Int32.reduceSub, z_set, z_set2, z_kil, List.set_cons_zero, List.set_cons_succ, List.take_succ_cons, List.take_zero, List.drop_succ_cons, List.drop_zero, List.reverse_cons, List.reverse_nil, List.nil_append, List.cons_append, List.getD_cons_succ, List.getD_cons_zero, List.getD_nil, List.length_cons, List.length_nil, List.map_cons, List.map_nil, List.sum_cons, List.sum_nil, Nat.reduceAdd, Nat.reduceLeDiff, Value.category, Option.toList, true_or, or_true, z_ua, ↓reduceIte, Nat.reduceEqDiff, eq_self, not_true_eq_false, not_false_eq_true, false_implies, true_implies, Classical.not_not, Nat.le_refl, Nat.zero_le, nI_1]
      try dsimp only
      refine c18_loop hS hj hN hN16 hQ k (i + 1) (by omega) (fun x hx => ?_)
      rcases Nat.lt_or_ge x i with q | q
      · exact hk x q
      · rw [show x = i by omega]; exact ha
    refine zW_ok hj B18_2 2 _ _ _ _ _ b18_2 ?_
    simp only [B18_2, zW, z_wp1, z_ld, z_f0, z_f1, z_f2, z_f3, List.getElem?_cons_zero, List.getElem?_cons_succ, true_and, and_true, Int32.reduceOfInt, z_i10, z_i01, Int32.reduceLT, Int32.reduceLE, Int32.reduceAdd, Int32.reduceSub, z_set, z_set2, z_kil, List.set_cons_zero, List.set_cons_succ, List.take_succ_cons, List.take_zero, List.drop_succ_cons, List.drop_zero, List.reverse_cons, List.reverse_nil, List.nil_append, List.cons_append, List.getD_cons_succ, List.getD_cons_zero, List.getD_nil, List.length_cons, List.length_nil, List.map_cons, List.map_nil, List.sum_cons, List.sum_nil, Nat.reduceAdd, Nat.reduceLeDiff, Value.category, Option.toList, true_or, or_true, z_ua, ↓reduceIte, Nat.reduceEqDiff, eq_self, not_true_eq_false, not_false_eq_true, false_implies, true_implies, Classical.not_not, Nat.le_refl, Nat.zero_le, sK34 hS, hN, sG34_5 hS, sK36 hS, sL36 hS, sG34_6 hS, sK37 hS, sL37 hS, e2, e3, z_dsub']
    try dsimp only
    refine ⟨fun hc => absurd hc (nI_ge (by omega) (by omega)), fun _ => ⟨fun h1 => go (fun q => absurd q h1), fun h1 => ⟨fun h2 => go (fun _ => h2), fun h2 => ?_⟩⟩⟩
    exact hQ _ _ ⟨by rw [z_b0 (fun z => h2 (z i (by omega) h1))], rfl⟩
theorem c18 (hS : SS K L G) (hex : x_ex I EN E A v0) (set : Int32) [Decidable (x_ekp I A set)] : z_D l 0 18 [.ref 34, .int set] (n, K, L, I, J, G) (some (.int (z_b (x_ekp I A set)))) (n, K, L, I, J, G) := by
  obtain ⟨x1, x2, x3, x4, x5, x6, x7, x8, x9⟩ := hex
  refine z_ctr (by decide) (by decide +kernel) (Nat.le_of_ble_eq_true rfl) (by decide +kernel) (fun X hl hj hd hm hs hsc hQ => ?_)
  show zV X 0 [some (.ref 34), some (.int set), none] [] _ 0 0
  refine zW_ok hj B18_0 0 _ _ _ _ _ b18_0 ?_
  simp only [B18_0, zW, z_wp1, z_ld, z_f0, z_f1, z_f2, z_f3, List.getElem?_cons_zero, List.getElem?_cons_succ, true_and, and_true, Int32.reduceOfInt, z_i10, z_i01, Int32.reduceLT, Int32.reduceLE, Int32.reduceAdd, Int32.reduceSub, z_set, z_set2, z_kil, List.set_cons_zero, List.set_cons_succ, List.take_succ_cons, List.take_zero, List.drop_succ_cons, List.drop_zero, List.reverse_cons, List.reverse_nil, List.nil_append, List.cons_append, List.getD_cons_succ, List.getD_cons_zero, List.getD_nil, List.length_cons, List.length_nil, List.map_cons, List.map_nil, List.sum_cons, List.sum_nil, Nat.reduceAdd, Nat.reduceLeDiff, Value.category, Option.toList, true_or, or_true, z_ua, ↓reduceIte, Nat.reduceEqDiff, eq_self, not_true_eq_false, not_false_eq_true, false_implies, true_implies, Classical.not_not, Nat.le_refl, Nat.zero_le]
  try dsimp only
  exact c18_loop hS hj x6 x7 hQ A 0 (by omega) (fun x hx => absurd hx (by omega))
theorem x_eo.ex {I I' : Nat → Nat → Int32} (h : x_eo I I') (hx : x_ex I EN E A v0) {v : Nat} (h8 : I' 34 8 = nI v) (hv : v ≤ 2 ^ EN) : x_ex I' EN E A v := by
  obtain ⟨x1, x2, x3, x4, x5, x6, x7, x8, x9⟩ := hx
  exact ⟨by rw [h.2 _ (by omega) (by omega)]; exact x1, by rw [h.2 _ (by omega) (by omega)]; exact x2, x3, by rw [h.2 _ (by omega) (by omega)]; exact x4, x5, by rw [h.2 _ (by omega) (by omega)]; exact x6, x7, h8, hv⟩
theorem c11_loop {X : zX} (hS : SS K L G) (hj : X.2.1 = 11) (hd : X.2.2.1 = 1) (hm : X.2.2.2.1 = 0) (hs : X.2.2.2.2.1 = 0) {v1 : Nat} (hex : x_ex I EN E A v1) {o : Option Nat}
    (hQ : ∀ r h', (∃ I', h' = (n, K, L, I', J, G) ∧ x_eo I I' ∧ (o = none → r = some (.int 0) ∧ I' 34 8 = nI (2 ^ EN)) ∧ ∀ v, o = some v → r = some (.int 1) ∧ v < 2 ^ EN ∧ I' 34 8 = nI v ∧ I' 34 9 = x_ecl I EN E (nI v)) → X.2.2.2.2.2.2 r h') : ∀ (k v : Nat) (I' : Nat → Nat → Int32), v + k = 2 ^ EN → x_eo I I' → I' 34 8 = nI v → m_fq nI (x_ekp I A) (x_ecl I EN E) k v = o → zV X 9 [some (.ref 34)] [] (n, K, L, I', J, G) 0 0
  | 0, v, I', hv, hoo, h8, ho => by
    have e : v = 2 ^ EN := by omega
    subst e
    have hp := z_pow hex.2.2.1
    have h2 : I' 34 2 = nI (2 ^ EN) := by rw [hoo.2 _ (by omega) (by omega)]; exact hex.2.1
    refine zW_ok hj B11_9 9 _ _ _ _ _ b11_9 ?_
    simp only [B11_9, zW, z_wp1, z_ld, z_f0, z_f1, z_f2, z_f3, List.getElem?_cons_zero, List.getElem?_cons_succ, true_and, and_true, Int32.reduceOfInt, z_i10, z_i01, Int32.reduceLT, Int32.reduceLE, Int32.reduceAdd, Int32.reduceSub, z_set, z_set2, z_kil, List.set_cons_zero, List.set_cons_succ, List.take_succ_cons, List.take_zero, List.drop_succ_cons, List.drop_zero, List.reverse_cons, List.reverse_nil, List.nil_append, List.cons_append, List.getD_cons_succ, List.getD_cons_zero, List.getD_nil, List.length_cons, List.length_nil, List.map_cons, List.map_nil, List.sum_cons, List.sum_nil, Nat.reduceAdd, Nat.reduceLeDiff, Value.category, Option.toList, true_or, or_true, z_ua, ↓reduceIte, Nat.reduceEqDiff, eq_self, not_true_eq_false, not_false_eq_true, false_implies, true_implies, Classical.not_not, Nat.le_refl, Nat.zero_le, sK34 hS, h8, h2]
    try dsimp only
    refine ⟨fun _ => ?_, fun hc => absurd (nI_le (Nat.le_refl _) (by omega)) hc⟩
    refine zW_ok hj B11_69 69 _ _ _ _ _ b11_69 ?_
    simp only [B11_69, zW, z_wp1, z_ld, z_f0, z_f1, z_f2, z_f3, List.getElem?_cons_zero, List.getElem?_cons_succ, true_and, and_true, Int32.reduceOfInt, z_i10, z_i01, Int32.reduceLT, Int32.reduceLE, Int32.reduceAdd, Int32.reduceSub, z_set, z_set2, z_kil, List.set_cons_zero, List.set_cons_succ, List.take_succ_cons, List.take_zero, List.drop_succ_cons, List.drop_zero, List.reverse_cons, List.reverse_nil, List.nil_append, List.cons_append, List.getD_cons_succ, List.getD_cons_zero, List.getD_nil, List.length_cons, List.length_nil, List.map_cons, List.map_nil, List.sum_cons, List.sum_nil, Nat.reduceAdd, Nat.reduceLeDiff, Value.category, Option.toList, true_or, or_true, z_ua, ↓reduceIte, Nat.reduceEqDiff, eq_self, not_true_eq_false, not_false_eq_true, false_implies, true_implies, Classical.not_not, Nat.le_refl, Nat.zero_le]
    try dsimp only
    exact hQ _ _ ⟨I', rfl, hoo, fun _ => ⟨rfl, h8⟩, fun w hw => by rw [← ho, m_fq] at hw; cases hw⟩
  | k + 1, v, I', hv, hoo, h8, ho => by
    have hp := z_pow hex.2.2.1
    have hex' := hoo.ex hex h8 (by omega)
    have h2 : I' 34 2 = nI (2 ^ EN) := hex'.2.1
    have e35 : I' 35 = I 35 := hoo.1 35 (by omega)
    have e36 : I' 36 = I 36 := hoo.1 36 (by omega)
    have e37 : I' 37 = I 37 := hoo.1 37 (by omega)
    have hcl : x_ecl I' EN E (nI v) = x_ecl I EN E (nI v) := by unfold x_ecl; rw [e35]
    have hkp : x_ekp I' A (nI v) = x_ekp I A (nI v) := by unfold x_ekp; rw [e36, e37]
    have dk : Decidable (x_ekp I A (nI v)) := Classical.propDecidable _
    have oo : ∀ x, x_eo I (z_u I' 34 9 x) := fun x => ⟨fun q hq => by rw [z_u_ne hq]; exact hoo.1 q hq, fun k a b => by rw [z_u_at, if_neg b]; exact hoo.2 k a b⟩
    have go : ¬ (x_ekp I A (nI v) ∧ ¬ x_ecl I EN E (nI v) = nI v) → zV X 56 [some (.ref 34)] [] (n, K, L, z_u I' 34 9 (x_ecl I EN E (nI v)), J, G) 0 0 := by
      intro hn
      refine zW_ok hj B11_56 56 _ _ _ _ _ b11_56 ?_
      simp only [B11_56, zW, z_wp1, z_ld, z_f0, z_f1, z_f2, z_f3, List.getElem?_cons_zero, List.getElem?_cons_succ, true_and, and_true, Int32.reduceOfInt, z_i10, z_i01, Int32.reduceLT, Int32.reduceLE, Int32.reduceAdd, Int32.reduceSub, z_set, z_set2, z_kil, List.set_cons_zero, List.set_cons_succ, List.take_succ_cons, List.take_zero, List.drop_succ_cons, List.drop_zero, List.reverse_cons, List.reverse_nil, List.nil_append, List.cons_append, List.getD_cons_succ, List.getD_cons_zero, List.getD_nil, List.length_cons, List.length_nil, List.map_cons, List.map_nil, List.sum_cons, List.sum_nil, Nat.reduceAdd, Nat.reduceLeDiff, Value.category, Option.toList, true_or, or_true, z_ua, ↓reduceIte, Nat.reduceEqDiff, eq_self, not_true_eq_false, not_false_eq_true, false_implies, true_implies, Classical.not_not, Nat.le_refl, Nat.zero_le, sK34 hS, h8, nI_1]
      try dsimp only
      refine c11_loop hS hj hd hm hs hex hQ k (v + 1) _ (by omega) ⟨fun q hq => ?_, fun k a b => ?_⟩ (by simp [z_u]) (by rw [m_fq, if_neg hn] at ho; exact ho)
      · rw [z_u_ne hq]; exact (oo _).1 q hq
      · rw [z_u_at, if_neg a]; exact (oo _).2 k a b
    refine zW_ok hj B11_9 9 _ _ _ _ _ b11_9 ?_
    simp only [B11_9, zW, z_wp1, z_ld, z_f0, z_f1, z_f2, z_f3, List.getElem?_cons_zero, List.getElem?_cons_succ, true_and, and_true, Int32.reduceOfInt, z_i10, z_i01, Int32.reduceLT, Int32.reduceLE, Int32.reduceAdd, Int32.reduceSub, z_set, z_set2, z_kil, List.set_cons_zero, List.set_cons_succ, List.take_succ_cons, List.take_zero, List.drop_succ_cons, List.drop_zero, List.reverse_cons, List.reverse_nil, List.nil_append, List.cons_append, List.getD_cons_succ, List.getD_cons_zero, List.getD_nil, List.length_cons, List.length_nil, List.map_cons, List.map_nil, List.sum_cons, List.sum_nil, Nat.reduceAdd, Nat.reduceLeDiff, Value.category, Option.toList, true_or, or_true, z_ua, ↓reduceIte, Nat.reduceEqDiff, eq_self, not_true_eq_false, not_false_eq_true, false_implies, true_implies, Classical.not_not, Nat.le_refl, Nat.zero_le, sK34 hS, h8, h2]
    try dsimp only
    refine ⟨fun hc => absurd hc (nI_ge (by omega) (by omega)), fun _ => ?_⟩
    refine z_callD (c17 hS hex' (nI v)) (by omega) (by omega) (by omega) (Nat.le_of_ble_eq_true rfl) ?_
    try simp only [zW, z_wp1, z_ld, z_f0, z_f1, z_f2, z_f3, List.getElem?_cons_zero, List.getElem?_cons_succ, true_and, and_true, Int32.reduceOfInt, z_i10, z_i01, Int32.reduceLT, Int32.reduceLE, Int32.reduceAdd, Int32.reduceSub, z_set, z_set2, z_kil, List.set_cons_zero, List.set_cons_succ, List.take_succ_cons, List.take_zero, List.drop_succ_cons, List.drop_zero, List.reverse_cons, List.reverse_nil, List.nil_append, List.cons_append, List.getD_cons_succ, List.getD_cons_zero, List.getD_nil, List.length_cons, List.length_nil, List.map_cons, List.map_nil, List.sum_cons, List.sum_nil, Nat.reduceAdd, Nat.reduceLeDiff, Value.category, Option.toList, true_or, or_true, z_ua, ↓reduceIte, Nat.reduceEqDiff, eq_self, not_true_eq_false, not_false_eq_true, false_implies, true_implies, Classical.not_not, Nat.le_refl, Nat.zero_le, sK34 hS, h8]
    try dsimp only
    rw [hcl]
    refine ⟨fun h1 => go (fun z => z.2 h1), fun h1 => ?_⟩
    have hex2 : x_ex (z_u I' 34 9 (x_ecl I EN E (nI v))) EN E A v := (oo _).ex hex (by rw [z_u_at, if_neg (by omega)]; exact h8) (by omega)
    have dk2 : Decidable (x_ekp (z_u I' 34 9 (x_ecl I EN E (nI v))) A (nI v)) := by
      show Decidable (x_ekp I' A (nI v))
      rw [hkp]
      exact dk
    refine z_callD (c18 hS hex2 (nI v)) (by omega) (by omega) (by omega) (Nat.le_of_ble_eq_true rfl) ?_
    try simp only [zW, z_wp1, z_ld, z_f0, z_f1, z_f2, z_f3, List.getElem?_cons_zero, List.getElem?_cons_succ, true_and, and_true, Int32.reduceOfInt, z_i10, z_i01, Int32.reduceLT, Int32.reduceLE, Int32.reduceAdd, Int32.reduceSub, z_set, z_set2, z_kil, List.set_cons_zero, List.set_cons_succ, List.take_succ_cons, List.take_zero, List.drop_succ_cons, List.drop_zero, List.reverse_cons, List.reverse_nil, List.nil_append, List.cons_append, List.getD_cons_succ, List.getD_cons_zero, List.getD_nil, List.length_cons, List.length_nil, List.map_cons, List.map_nil, List.sum_cons, List.sum_nil, Nat.reduceAdd, Nat.reduceLeDiff, Value.category, Option.toList, true_or, or_true, z_ua, ↓reduceIte, Nat.reduceEqDiff, eq_self, not_true_eq_false, not_false_eq_true, false_implies, true_implies, Classical.not_not, Nat.le_refl, Nat.zero_le, z_b_eq]
    try dsimp only
    have hkp2 : x_ekp (z_u I' 34 9 (x_ecl I EN E (nI v))) A (nI v) ↔ x_ekp I A (nI v) := by
      show x_ekp I' A (nI v) ↔ _
      rw [hkp]
    rw [hkp2]
    refine ⟨fun h3 => go (fun z => h3 z.1), fun h3 => ?_⟩
    have he : o = some v := by rw [← ho, m_fq, if_pos ⟨h3, h1⟩]
    refine hQ _ _ ⟨_, rfl, oo _, fun q => absurd (he.symm.trans q) (by simp), fun w hw => ?_⟩
    rw [he] at hw
    cases hw
    exact ⟨rfl, by omega, by rw [z_u_at, if_neg (by omega)]; exact h8, by simp [z_u]⟩
theorem c11 (hS : SS K L G) (hb : ¬ I 34 0 = 0) (hex : x_ex I EN E A v0) {o : Option Nat} (ho : m_fq nI (x_ekp I A) (x_ecl I EN E) (2 ^ EN - v0) v0 = o) : z_Ctr l 1 11 [.ref 34] (n, K, L, I, J, G) 0 0 (fun r h' => ∃ I', h' = (n, K, L, I', J, G) ∧ x_eo I I' ∧ (o = none → r = some (.int 0) ∧ I' 34 8 = nI (2 ^ EN)) ∧ ∀ v, o = some v → r = some (.int 1) ∧ v < 2 ^ EN ∧ I' 34 8 = nI v ∧ I' 34 9 = x_ecl I EN E (nI v)) := by
  refine z_ctr (by decide) (by decide +kernel) (Nat.le_of_ble_eq_true rfl) (by decide +kernel) (fun X hl hj hd hm hs hsc hQ => ?_)
  show zV X 0 [some (.ref 34)] [] _ 0 0
  refine zW_ok hj B11_0 0 _ _ _ _ _ b11_0 ?_
  simp only [B11_0, zW, z_wp1, z_ld, z_f0, z_f1, z_f2, z_f3, List.getElem?_cons_zero, List.getElem?_cons_succ, true_and, and_true, Int32.reduceOfInt, z_i10, z_i01, Int32.reduceLT, Int32.reduceLE, Int32.reduceAdd, Int32.reduceSub, z_set, z_set2, z_kil, List.set_cons_zero, List.set_cons_succ, List.take_succ_cons, List.take_zero, List.drop_succ_cons, List.drop_zero, List.reverse_cons, List.reverse_nil, List.nil_append, List.cons_append, List.getD_cons_succ, List.getD_cons_zero, List.getD_nil, List.length_cons, List.length_nil, List.map_cons, List.map_nil, List.sum_cons, List.sum_nil, Nat.reduceAdd, Nat.reduceLeDiff, Value.category, Option.toList, true_or, or_true, z_ua, ↓reduceIte, Nat.reduceEqDiff, eq_self, not_true_eq_false, not_false_eq_true, false_implies, true_implies, Classical.not_not, Nat.le_refl, Nat.zero_le, sK34 hS, hb]
  try dsimp only
  exact c11_loop hS hj hd hm hs hex hQ (2 ^ EN - v0) v0 I (by have := hex.2.2.2.2.2.2.2.2; omega) ⟨fun _ _ => rfl, fun _ _ _ => rfl⟩ hex.2.2.2.2.2.2.2.1 ho
theorem c11n (hS : SS K L G) (hb : I 34 0 = 0) : z_D l 1 11 [.ref 34] (n, K, L, I, J, G) (some (.int 0)) (n, K, L, I, J, G) := by
  refine z_ctr (by decide) (by decide +kernel) (Nat.le_of_ble_eq_true rfl) (by decide +kernel) (fun X hl hj hd hm hs hsc hQ => ?_)
  show zV X 0 [some (.ref 34)] [] _ 0 0
  refine zW_ok hj B11_0 0 _ _ _ _ _ b11_0 ?_
  simp only [B11_0, zW, z_wp1, z_ld, z_f0, z_f1, z_f2, z_f3, List.getElem?_cons_zero, List.getElem?_cons_succ, true_and, and_true, Int32.reduceOfInt, z_i10, z_i01, Int32.reduceLT, Int32.reduceLE, Int32.reduceAdd, Int32.reduceSub, z_set, z_set2, z_kil, List.set_cons_zero, List.set_cons_succ, List.take_succ_cons, List.take_zero, List.drop_succ_cons, List.drop_zero, List.reverse_cons, List.reverse_nil, List.nil_append, List.cons_append, List.getD_cons_succ, List.getD_cons_zero, List.getD_nil, List.length_cons, List.length_nil, List.map_cons, List.map_nil, List.sum_cons, List.sum_nil, Nat.reduceAdd, Nat.reduceLeDiff, Value.category, Option.toList, true_or, or_true, z_ua, ↓reduceIte, Nat.reduceEqDiff, eq_self, not_true_eq_false, not_false_eq_true, false_implies, true_implies, Classical.not_not, Nat.le_refl, Nat.zero_le, sK34 hS, hb]
  try dsimp only
  exact hQ _ _ ⟨rfl, rfl⟩
/-- askedPremise, askedConclusion -/
theorem c12 (hS : SS K L G) (hex : x_ex I EN E A v0) : z_D l 1 12 [.ref 34] (n, K, L, I, J, G) (some (.int (x_bw (nI v0) EN))) (n, K, L, I, J, G) := by
  obtain ⟨x1, x2, x3, x4, x5, x6, x7, x8, x9⟩ := hex
  refine z_ctr (by decide) (by decide +kernel) (Nat.le_of_ble_eq_true rfl) (by decide +kernel) (fun X hl hj hd hm hs hsc hQ => ?_)
  show zV X 0 [some (.ref 34)] [] _ 0 0
  refine zW_ok hj B12_0 0 _ _ _ _ _ b12_0 ?_
  simp only [B12_0, zW, z_wp1, z_ld, z_f0, z_f1, z_f2, z_f3, List.getElem?_cons_zero, List.getElem?_cons_succ, true_and, and_true, Int32.reduceOfInt, z_i10, z_i01, Int32.reduceLT, Int32.reduceLE, Int32.reduceAdd, Int32.reduceSub, z_set, z_set2, z_kil, List.set_cons_zero, List.set_cons_succ, List.take_succ_cons, List.take_zero, List.drop_succ_cons, List.drop_zero, List.reverse_cons, List.reverse_nil, List.nil_append, List.cons_append, List.getD_cons_succ, List.getD_cons_zero, List.getD_nil, List.length_cons, List.length_nil, List.map_cons, List.map_nil, List.sum_cons, List.sum_nil, Nat.reduceAdd, Nat.reduceLeDiff, Value.category, Option.toList, true_or, or_true, z_ua, ↓reduceIte, Nat.reduceEqDiff, eq_self, not_true_eq_false, not_false_eq_true, false_implies, true_implies, Classical.not_not, Nat.le_refl, Nat.zero_le, sK34 hS, x1, x8]
  try dsimp only
  refine z_callD (c157 (N := EN) (by omega) (nI v0)) (by omega) (by omega) (by omega) (Nat.le_of_ble_eq_true rfl) ?_
  try simp only [zW, z_wp1, z_ld, z_f0, z_f1, z_f2, z_f3, List.getElem?_cons_zero, List.getElem?_cons_succ, true_and, and_true, Int32.reduceOfInt, z_i10, z_i01, Int32.reduceLT, Int32.reduceLE, Int32.reduceAdd, Int32.reduceSub, z_set, z_set2, z_kil, List.set_cons_zero, List.set_cons_succ, List.take_succ_cons, List.take_zero, List.drop_succ_cons, List.drop_zero, List.reverse_cons, List.reverse_nil, List.nil_append, List.cons_append, List.getD_cons_succ, List.getD_cons_zero, List.getD_nil, List.length_cons, List.length_nil, List.map_cons, List.map_nil, List.sum_cons, List.sum_nil, Nat.reduceAdd, Nat.reduceLeDiff, Value.category, Option.toList, true_or, or_true, z_ua, ↓reduceIte, Nat.reduceEqDiff, eq_self, not_true_eq_false, not_false_eq_true, false_implies, true_implies, Classical.not_not, Nat.le_refl, Nat.zero_le]
  try dsimp only
  exact hQ _ _ ⟨rfl, rfl⟩
theorem c13 (hS : SS K L G) (hex : x_ex I EN E A v0) : z_D l 1 13 [.ref 34] (n, K, L, I, J, G) (some (.int (x_bw (I 34 9) EN))) (n, K, L, I, J, G) := by
  obtain ⟨x1, x2, x3, x4, x5, x6, x7, x8, x9⟩ := hex
  refine z_ctr (by decide) (by decide +kernel) (Nat.le_of_ble_eq_true rfl) (by decide +kernel) (fun X hl hj hd hm hs hsc hQ => ?_)
  show zV X 0 [some (.ref 34)] [] _ 0 0
  refine zW_ok hj B13_0 0 _ _ _ _ _ b13_0 ?_
  simp only [B13_0, zW, z_wp1, z_ld, z_f0, z_f1, z_f2, z_f3, List.getElem?_cons_zero, List.getElem?_cons_succ, true_and, and_true, Int32.reduceOfInt, z_i10, z_i01, Int32.reduceLT, Int32.reduceLE, Int32.reduceAdd, Int32.reduceSub, z_set, z_set2, z_kil, List.set_cons_zero, List.set_cons_succ, List.take_succ_cons, List.take_zero, List.drop_succ_cons, List.drop_zero, List.reverse_cons, List.reverse_nil, List.nil_append, List.cons_append, List.getD_cons_succ, List.getD_cons_zero, List.getD_nil, List.length_cons, List.length_nil, List.map_cons, List.map_nil, List.sum_cons, List.sum_nil, Nat.reduceAdd, Nat.reduceLeDiff, Value.category, Option.toList, true_or, or_true, z_ua, ↓reduceIte, Nat.reduceEqDiff, eq_self, not_true_eq_false, not_false_eq_true, false_implies, true_implies, Classical.not_not, Nat.le_refl, Nat.zero_le, sK34 hS, x1, x8]
  try dsimp only
  refine z_callD (c157 (N := EN) (by omega) (I 34 9)) (by omega) (by omega) (by omega) (Nat.le_of_ble_eq_true rfl) ?_
  try simp only [zW, z_wp1, z_ld, z_f0, z_f1, z_f2, z_f3, List.getElem?_cons_zero, List.getElem?_cons_succ, true_and, and_true, Int32.reduceOfInt, z_i10, z_i01, Int32.reduceLT, Int32.reduceLE, Int32.reduceAdd, Int32.reduceSub, z_set, z_set2, z_kil, List.set_cons_zero, List.set_cons_succ, List.take_succ_cons, List.take_zero, List.drop_succ_cons, List.drop_zero, List.reverse_cons, List.reverse_nil, List.nil_append, List.cons_append, List.getD_cons_succ, List.getD_cons_zero, List.getD_nil, List.length_cons, List.length_nil, List.map_cons, List.map_nil, List.sum_cons, List.sum_nil, Nat.reduceAdd, Nat.reduceLeDiff, Value.category, Option.toList, true_or, or_true, z_ua, ↓reduceIte, Nat.reduceEqDiff, eq_self, not_true_eq_false, not_false_eq_true, false_implies, true_implies, Classical.not_not, Nat.le_refl, Nat.zero_le]
  try dsimp only
  exact hQ _ _ ⟨rfl, rfl⟩
end X8
