/-! Keys of the model, set by set -/
/-- one place in each of the three rows -/
def m_k3 (I I' : Nat → Nat → Int32) (s : Nat) : Prop := (∀ q, q ≠ 98 → q ≠ 99 → q ≠ 100 → I' q = I q) ∧ ∀ t, t ≠ s → I' 98 t = I 98 t ∧ I' 99 t = I 99 t ∧ I' 100 t = I 100 t
def m_kv (I : Nat → Nat → Int32) (t : Nat) (v : Int32 × Int32 × Int32) : Prop := I 98 t = v.1 ∧ I 99 t = v.2.1 ∧ I 100 t = v.2.2
section KEY2
variable {l : Launch} {n : Nat} {K L : Nat → Nat} {I : Nat → Nat → Int32} {J : Nat → Nat → Int64} {G : Nat → Nat → Value} {c F N s : Nat} {tr : Nat → (Int32 → Int32) → Int32} {ys mb co : Nat → Int32}
theorem c237_loop {X : zX} (hS : SS K L G) (hj : X.2.1 = 237) (hN : I 71 17 = nI N) (hN12 : N ≤ 12) (hs16 : s < 2 ^ 16) (hy : ∀ i, i < N → I 101 i = ys i ∧ I 102 i = mb i ∧ I 97 i = co i) {kv : Nat → Int32 × Int32 × Int32} (hg : ∀ t, t < s → t ≠ 0 → (∀ j, zb (nI t) j = true → zb (nI s) j = true) → m_kv I t (kv t)) (hQ : ∀ r h', (r = none ∧ ∃ I', h' = (n, K, L, I', J, G) ∧ m_k3 I I' s ∧ m_kv I' s (k_st ys mb co kv (nI s) N)) → X.2.2.2.2.2.2 r h') : ∀ (k i : Nat) (I' : Nat → Nat → Int32) (x3 x4 x5 : Option Value), i + k = N → m_k3 I I' s → m_kv I' s (k_st ys mb co kv (nI s) i) → zV X 23 [some (.ref 71), some (.int (nI s)), some (.int (nI i)), x3, x4, x5] [] (n, K, L, I', J, G) 0 0
  | 0, i, I', x3, x4, x5, hk, ho, h1 => by
    have e : i = N := by omega
    subst e
    have hN' : I' 71 17 = nI i := by rw [ho.1 71 (by decide) (by decide) (by decide)]; exact hN
    refine zW_ok hj B237_23 23 _ _ _ _ _ b237_23 ?_
    simp only [B237_23, zW, z_wp1, z_ld, z_f0, z_f1, z_f2, z_f3, List.getElem?_cons_zero, List.getElem?_cons_succ, true_and, and_true, Int32.reduceOfInt, z_i10, z_i01, Int32.reduceLT, Int32.reduceLE, Int32.reduceAdd, Int32.reduceSub, z_set, z_set2, z_kil, List.set_cons_zero, List.set_cons_succ, List.take_succ_cons, List.take_zero, List.drop_succ_cons, List.drop_zero, List.reverse_cons, List.reverse_nil, List.nil_append, List.cons_append, List.getD_cons_succ, List.getD_cons_zero, List.getD_nil, List.length_cons, List.length_nil, List.map_cons, List.map_nil, List.sum_cons, List.sum_nil, Nat.reduceAdd, Nat.reduceLeDiff, Value.category, Option.toList, true_or, or_true, z_ua, ↓reduceIte, Nat.reduceEqDiff, eq_self, not_true_eq_false, not_false_eq_true, false_implies, true_implies, Classical.not_not, Nat.le_refl, Nat.zero_le, sK71 hS, hN']
    try dsimp only
    refine ⟨fun _ => ?_, fun hc => absurd (nI_le (Nat.le_refl _) (by omega)) hc⟩
    refine zW_ok hj B237_181 181 _ _ _ _ _ b237_181 ?_
    simp only [B237_181, zW, z_wp1, z_ld, z_f0, z_f1, z_f2, z_f3, List.getElem?_cons_zero, List.getElem?_cons_succ, true_and, and_true, Int32.reduceOfInt, z_i10, z_i01, Int32.reduceLT, Int32.reduceLE, Int32.reduceAdd, Int32.reduceSub, z_set, z_set2, z_kil, List.set_cons_zero, List.set_cons_succ, List.take_succ_cons, List.take_zero, List.drop_succ_cons, List.drop_zero, List.reverse_cons, List.reverse_nil, List.nil_append, List.cons_append, List.getD_cons_succ, List.getD_cons_zero, List.getD_nil, List.length_cons, List.length_nil, List.map_cons, List.map_nil, List.sum_cons, List.sum_nil, Nat.reduceAdd, Nat.reduceLeDiff, Value.category, Option.toList, true_or, or_true, z_ua, ↓reduceIte, Nat.reduceEqDiff, eq_self, not_true_eq_false, not_false_eq_true, false_implies, true_implies, Classical.not_not, Nat.le_refl, Nat.zero_le]
    try dsimp only
    exact hQ _ _ ⟨rfl, I', rfl, ho, h1⟩
  | k + 1, i, I', x3, x4, x5, hk, ho, h1 => by
    have hN' : I' 71 17 = nI N := by rw [ho.1 71 (by decide) (by decide) (by decide)]; exact hN
    obtain ⟨y1, y2, y3⟩ := hy i (by omega)
    have z1 : I' 101 i = ys i := by rw [ho.1 101 (by decide) (by decide) (by decide)]; exact y1
    have z2 : I' 102 i = mb i := by rw [ho.1 102 (by decide) (by decide) (by decide)]; exact y2
    have z3 : I' 97 i = co i := by rw [ho.1 97 (by decide) (by decide) (by decide)]; exact y3
    have e1 : (nI i).toNatClampNeg = i := nI_clamp (by omega)
    have v1 : vp_in (nI i) 12 := vp_in_nI (by omega) (by omega)
    have e2 : (nI s).toNatClampNeg = s := nI_clamp (by omega)
    have v2 : vp_in (nI s) 65536 := vp_in_nI (by omega) (by omega)
    obtain ⟨w1, w2, w3⟩ := id h1
    have go : ∀ (I2 : Nat → Nat → Int32) (x3 x4 x5 : Option Value), m_k3 I I2 s → m_kv I2 s (k_st ys mb co kv (nI s) (i + 1)) → zV X 175 [some (.ref 71), some (.int (nI s)), some (.int (nI i)), x3, x4, x5] [] (n, K, L, I2, J, G) 0 0 := by
      intro I2 x3 x4 x5 a1 a2
      refine zW_ok hj B237_175 175 _ _ _ _ _ b237_175 ?_
      simp only [B237_175, zW, z_wp1, z_ld, z_f0, z_f1, z_f2, z_f3, List.getElem?_cons_zero, List.getElem?_cons_succ, true_and, and_true, Int32.reduceOfInt, z_i10, z_i01, Int32.reduceLT, Int32.reduceLE, Int32.reduceAdd, Int32.reduceSub, z_set, z_set2, z_kil, List.set_cons_zero, List.set_cons_succ, List.take_succ_cons, List.take_zero, List.drop_succ_cons, List.drop_zero, List.reverse_cons, List.reverse_nil, List.nil_append, List.cons_append, List.getD_cons_succ, List.getD_cons_zero, List.getD_nil, List.length_cons, List.length_nil, List.map_cons, List.map_nil, List.sum_cons, List.sum_nil, Nat.reduceAdd, Nat.reduceLeDiff, Value.category, Option.toList, true_or, or_true, z_ua, ↓reduceIte, Nat.reduceEqDiff, eq_self, not_true_eq_false, not_false_eq_true, false_implies, true_implies, Classical.not_not, Nat.le_refl, Nat.zero_le, nI_1]
      try dsimp only
      exact c237_loop hS hj hN hN12 hs16 hy hg hQ k (i + 1) I2 _ _ _ (by omega) a1 a2
    have no : ∀ (x3 x4 x5 : Option Value), ¬ (k_ok ys mb (nI s) i ∧ ((k_st ys mb co kv (nI s) i).2.1 = -1 ∨ k_v1 ys co kv (nI s) i < (k_st ys mb co kv (nI s) i).1)) → zV X 175 [some (.ref 71), some (.int (nI s)), some (.int (nI i)), x3, x4, x5] [] (n, K, L, I', J, G) 0 0 := fun x3 x4 x5 h => go I' x3 x4 x5 ho (by rw [k_st, if_neg h]; exact h1)
    refine zW_ok hj B237_23 23 _ _ _ _ _ b237_23 ?_
    simp only [B237_23, zW, z_wp1, z_ld, z_f0, z_f1, z_f2, z_f3, List.getElem?_cons_zero, List.getElem?_cons_succ, true_and, and_true, Int32.reduceOfInt, z_i10, z_i01, Int32.reduceLT, Int32.reduceLE, Int32.reduceAdd, Int32.reduceSub, z_set, z_set2, z_kil, List.set_cons_zero, List.set_cons_succ, List.take_succ_cons, List.take_zero, List.drop_succ_cons, List.drop_zero, List.reverse_cons, List.reverse_nil, List.nil_append, List.cons_append, List.getD_cons_succ, List.getD_cons_zero, List.getD_nil, List.length_cons, List.length_nil, List.map_cons, List.map_nil, List.sum_cons, List.sum_nil, Nat.reduceAdd, Nat.reduceLeDiff, Value.category, Option.toList, true_or, or_true, z_ua, ↓reduceIte, Nat.reduceEqDiff, eq_self, not_true_eq_false, not_false_eq_true, false_implies, true_implies, Classical.not_not, Nat.le_refl, Nat.zero_le, sK71 hS, hN', sG71_57 hS, sK101 hS, sL101 hS, sG71_58 hS, sK102 hS, sL102 hS, e1, v1, z1, z2]
    try dsimp only
    refine ⟨fun hc => absurd hc (nI_ge (by omega) (by omega)), fun _ => ⟨fun a => no _ _ _ (fun q => a q.1.1), fun a => ⟨fun b => no _ _ _ (fun q => q.1.2.1 b), fun b => ⟨fun d => ?_, fun d => no _ _ _ (fun q => q.1.2.2 d)⟩⟩⟩⟩
    have hok : k_ok ys mb (nI s) i := ⟨a, b, d⟩
    obtain ⟨p, q, ep, eq, hp, hq, hp0, hq0, bp, bq⟩ := k_part hs16 hok
    obtain ⟨p1, p2, p3⟩ := hg p hp hp0 (fun j hj => by rw [bp] at hj; simp at hj; exact hj.1)
    obtain ⟨q1, q2, q3⟩ := hg q hq hq0 (fun j hj => by rw [bq] at hj; simp at hj; exact hj.1)
    have ep2 : (nI p).toNatClampNeg = p := nI_clamp (by omega)
    have eq2 : (nI q).toNatClampNeg = q := nI_clamp (by omega)
    have vp2 : vp_in (nI p) 65536 := vp_in_nI (by omega) (by omega)
    have vq2 : vp_in (nI q) 65536 := vp_in_nI (by omega) (by omega)
    have g98p : I' 98 p = (kv p).1 := by rw [(ho.2 p (by omega)).1]; exact p1
    have g98q : I' 98 q = (kv q).1 := by rw [(ho.2 q (by omega)).1]; exact q1
    have g100p : I' 100 p = (kv p).2.2 := by rw [(ho.2 p (by omega)).2.2]; exact p3
    have g100q : I' 100 q = (kv q).2.2 := by rw [(ho.2 q (by omega)).2.2]; exact q3
    have dps : ¬ p = s := by omega
    have dqs : ¬ q = s := by omega
    have ev : k_v1 ys co kv (nI s) i = co i + (if (kv q).1 < (kv p).1 then (kv p).1 else (kv q).1) := by rw [k_v1, ep, eq, ep2, eq2]
    rw [ep, eq]
    have two : ∀ z, z = (if (kv q).1 < (kv p).1 then (kv p).1 else (kv q).1) → zV X 113 [some (.ref 71), some (.int (nI s)), some (.int (nI i)), some (.int (nI p)), some (.int (nI q)), x5] [.int z, .int (co i)] (n, K, L, I', J, G) 0 0 := by
      intro z hz
      have ev' : co i + z = k_v1 ys co kv (nI s) i := by rw [ev, hz]
      have yes : ((k_st ys mb co kv (nI s) i).2.1 = -1 ∨ k_v1 ys co kv (nI s) i < (k_st ys mb co kv (nI s) i).1) → zV X 140 [some (.ref 71), some (.int (nI s)), some (.int (nI i)), some (.int (nI p)), some (.int (nI q)), some (.int (k_v1 ys co kv (nI s) i))] [] (n, K, L, I', J, G) 0 0 := by
        intro hc
        refine zW_ok hj B237_140 140 _ _ _ _ _ b237_140 ?_
        simp only [B237_140, zW, z_wp1, z_ld, z_f0, z_f1, z_f2, z_f3, List.getElem?_cons_zero, List.getElem?_cons_succ, true_and, and_true, Int32.reduceOfInt, z_i10, z_i01, Int32.reduceLT, Int32.reduceLE, Int32.reduceAdd, Int32.reduceSub, z_set, z_set2, z_kil, List.set_cons_zero, List.set_cons_succ, List.take_succ_cons, List.take_zero, List.drop_succ_cons, List.drop_zero, List.reverse_cons, List.reverse_nil, List.nil_append, List.cons_append, List.getD_cons_succ, List.getD_cons_zero, List.getD_nil, List.length_cons, List.length_nil, List.map_cons, List.map_nil, List.sum_cons, List.sum_nil, Nat.reduceAdd, Nat.reduceLeDiff, Value.category, Option.toList, true_or, or_true, z_ua, ↓reduceIte, Nat.reduceEqDiff, eq_self, not_true_eq_false, not_false_eq_true, false_implies, true_implies, Classical.not_not, Nat.le_refl, Nat.zero_le, sK71 hS, sG71_54 hS, sK98 hS, sL98 hS, sG71_55 hS, sK99 hS, sL99 hS, sG71_56 hS, sK100 hS, sL100 hS, e2, v2, ep2, eq2, vp2, vq2, g100p, g100q, dps, dqs]
        try dsimp only
        refine go _ _ _ _ ⟨fun u a1 a2 a3 => by rw [z_u_ne a3, z_u_ne a2, z_u_ne a1]; exact ho.1 u a1 a2 a3, fun t ht => ⟨?_, ?_, ?_⟩⟩ ⟨?_, ?_, ?_⟩
        · rw [z_u_ne (by decide), z_u_ne (by decide), z_u_at, if_neg ht]; exact (ho.2 t ht).1
        · rw [z_u_ne (by decide), z_u_at, if_neg ht, z_u_ne (by decide)]; exact (ho.2 t ht).2.1
        · rw [z_u_at, if_neg ht, z_u_ne (by decide), z_u_ne (by decide)]; exact (ho.2 t ht).2.2
        · rw [k_st, if_pos ⟨hok, hc⟩]; simp [z_u]
        · rw [k_st, if_pos ⟨hok, hc⟩]; simp [z_u]
        · rw [k_st, if_pos ⟨hok, hc⟩, ep, eq, ep2, eq2]; simp [z_u]
      refine zW_ok hj B237_113 113 _ _ _ _ _ b237_113 ?_
      simp only [B237_113, zW, z_wp1, z_ld, z_f0, z_f1, z_f2, z_f3, List.getElem?_cons_zero, List.getElem?_cons_succ, true_and, and_true, Int32.reduceOfInt, z_i10, z_i01, Int32.reduceLT, Int32.reduceLE, Int32.reduceAdd, Int32.reduceSub, z_set, z_set2, z_kil, List.set_cons_zero, List.set_cons_succ, List.take_succ_cons, List.take_zero, List.drop_succ_cons, List.drop_zero, List.reverse_cons, List.reverse_nil, List.nil_append, List.cons_append, List.getD_cons_succ, List.getD_cons_zero, List.getD_nil, List.length_cons, List.length_nil, List.map_cons, List.map_nil, List.sum_cons, List.sum_nil, Nat.reduceAdd, Nat.reduceLeDiff, Value.category, Option.toList, true_or, or_true, z_ua, ↓reduceIte, Nat.reduceEqDiff, eq_self, not_true_eq_false, not_false_eq_true, false_implies, true_implies, Classical.not_not, Nat.le_refl, Nat.zero_le, sK71 hS, sG71_55 hS, sK99 hS, sL99 hS, sG71_54 hS, sK98 hS, sL98 hS, e2, v2, w1, w2, ev']
      try dsimp only
      exact ⟨fun h => yes (Or.inl h), fun h => ⟨fun h' => yes (Or.inr h'), fun h' => no _ _ _ (fun u => u.2.elim h h')⟩⟩
    refine zW_ok hj B237_75 75 _ _ _ _ _ b237_75 ?_
    simp only [B237_75, zW, z_wp1, z_ld, z_f0, z_f1, z_f2, z_f3, List.getElem?_cons_zero, List.getElem?_cons_succ, true_and, and_true, Int32.reduceOfInt, z_i10, z_i01, Int32.reduceLT, Int32.reduceLE, Int32.reduceAdd, Int32.reduceSub, z_set, z_set2, z_kil, List.set_cons_zero, List.set_cons_succ, List.take_succ_cons, List.take_zero, List.drop_succ_cons, List.drop_zero, List.reverse_cons, List.reverse_nil, List.nil_append, List.cons_append, List.getD_cons_succ, List.getD_cons_zero, List.getD_nil, List.length_cons, List.length_nil, List.map_cons, List.map_nil, List.sum_cons, List.sum_nil, Nat.reduceAdd, Nat.reduceLeDiff, Value.category, Option.toList, true_or, or_true, z_ua, ↓reduceIte, Nat.reduceEqDiff, eq_self, not_true_eq_false, not_false_eq_true, false_implies, true_implies, Classical.not_not, Nat.le_refl, Nat.zero_le, sK71 hS, sG71_53 hS, sK97 hS, sL97 hS, sG71_54 hS, sK98 hS, sL98 hS, e1, v1, z3, ep2, eq2, vp2, vq2, g98p, g98q]
    try dsimp only
    refine ⟨fun h => ?_, fun h => two _ (by rw [if_pos (Int32.not_le.mp h)])⟩
    refine zW_ok hj B237_106 106 _ _ _ _ _ b237_106 ?_
    simp only [B237_106, zW, z_wp1, z_ld, z_f0, z_f1, z_f2, z_f3, List.getElem?_cons_zero, List.getElem?_cons_succ, true_and, and_true, Int32.reduceOfInt, z_i10, z_i01, Int32.reduceLT, Int32.reduceLE, Int32.reduceAdd, Int32.reduceSub, z_set, z_set2, z_kil, List.set_cons_zero, List.set_cons_succ, List.take_succ_cons, List.take_zero, List.drop_succ_cons, List.drop_zero, List.reverse_cons, List.reverse_nil, List.nil_append, List.cons_append, List.getD_cons_succ, List.getD_cons_zero, List.getD_nil, List.length_cons, List.length_nil, List.map_cons, List.map_nil, List.sum_cons, List.sum_nil, Nat.reduceAdd, Nat.reduceLeDiff, Value.category, Option.toList, true_or, or_true, z_ua, ↓reduceIte, Nat.reduceEqDiff, eq_self, not_true_eq_false, not_false_eq_true, false_implies, true_implies, Classical.not_not, Nat.le_refl, Nat.zero_le, sK71 hS, sG71_54 hS, sK98 hS, sL98 hS, eq2, vq2, g98q]
    try dsimp only
    exact two _ (by rw [if_neg (Int32.not_lt.mpr h)])
theorem c237 (hS : SS K L G) (hN : I 71 17 = nI N) (hN12 : N ≤ 12) (hs16 : s < 2 ^ 16) (hy : ∀ i, i < N → I 101 i = ys i ∧ I 102 i = mb i ∧ I 97 i = co i) (hg : ∀ t, t < s → t ≠ 0 → (∀ j, zb (nI t) j = true → zb (nI s) j = true) → m_kv I t (k_v ys mb co N t)) : z_Ctr l 0 237 [.ref 71, .int (nI s)] (n, K, L, I, J, G) 0 0 (fun r h' => r = none ∧ ∃ I', h' = (n, K, L, I', J, G) ∧ m_k3 I I' s ∧ m_kv I' s (k_v ys mb co N s)) := by
  have e2 : (nI s).toNatClampNeg = s := nI_clamp (by omega)
  have v2 : vp_in (nI s) 65536 := vp_in_nI (by omega) (by omega)
  refine z_ctr (by decide) (by decide +kernel) (Nat.le_of_ble_eq_true rfl) (by decide +kernel) (fun X hl hj hd hm hs hsc hQ => ?_)
  show zV X 0 [some (.ref 71), some (.int (nI s)), none, none, none, none] [] _ 0 0
  refine zW_ok hj B237_0 0 _ _ _ _ _ b237_0 ?_
  simp only [B237_0, zW, z_wp1, z_ld, z_f0, z_f1, z_f2, z_f3, List.getElem?_cons_zero, List.getElem?_cons_succ, true_and, and_true, Int32.reduceOfInt, z_i10, z_i01, Int32.reduceLT, Int32.reduceLE, Int32.reduceAdd, Int32.reduceSub, z_set, z_set2, z_kil, List.set_cons_zero, List.set_cons_succ, List.take_succ_cons, List.take_zero, List.drop_succ_cons, List.drop_zero, List.reverse_cons, List.reverse_nil, List.nil_append, List.cons_append, List.getD_cons_succ, List.getD_cons_zero, List.getD_nil, List.length_cons, List.length_nil, List.map_cons, List.map_nil, List.sum_cons, List.sum_nil, Nat.reduceAdd, Nat.reduceLeDiff, Value.category, Option.toList, true_or, or_true, z_ua, ↓reduceIte, Nat.reduceEqDiff, eq_self, not_true_eq_false, not_false_eq_true, false_implies, true_implies, Classical.not_not, Nat.le_refl, Nat.zero_le, sK71 hS, sG71_54 hS, sK98 hS, sL98 hS, sG71_55 hS, sK99 hS, sL99 hS, sG71_56 hS, sK100 hS, sL100 hS, e2, v2]
  try dsimp only
  rw [k_v_eq ys mb co N hs16] at hQ
  refine c237_loop hS hj hN hN12 hs16 hy hg hQ N 0 _ none none none (by omega) ⟨fun u a1 a2 a3 => by rw [z_u_ne a3, z_u_ne a2, z_u_ne a1], fun t ht => ⟨?_, ?_, ?_⟩⟩ ⟨?_, ?_, ?_⟩
  · rw [z_u_ne (by decide), z_u_ne (by decide), z_u_at, if_neg ht]
  · rw [z_u_ne (by decide), z_u_at, if_neg ht, z_u_ne (by decide)]
  · rw [z_u_at, if_neg ht, z_u_ne (by decide), z_u_ne (by decide)]
  · simp [z_u, k_st]
  · simp [z_u, k_st]
  · simp [z_u, k_st]
/-- findKeys: all sets in a set -/
theorem c238_loop {X : zX} (hS : SS K L G) (hj : X.2.1 = 238) (hd : X.2.2.1 = 4) (hm : X.2.2.2.1 = 0) (hs : X.2.2.2.2.1 = 0) (hN : I 71 17 = nI N) (hN12 : N ≤ 12) (hs16 : s < 2 ^ 16) (hy : ∀ i, i < N → I 101 i = ys i ∧ I 102 i = mb i ∧ I 97 i = co i) (hQ : ∀ r h', (r = none ∧ ∃ I', h' = (n, K, L, I', J, G) ∧ (∀ q, q ≠ 98 → q ≠ 99 → q ≠ 100 → I' q = I q) ∧ ∀ t, t ≠ 0 → t &&& s = t → m_kv I' t (k_v ys mb co N t)) → X.2.2.2.2.2.2 r h') : ∀ (k p : Nat) (I' : Nat → Nat → Int32), s - p ≤ k → p &&& s = p → (∀ q, q ≠ 98 → q ≠ 99 → q ≠ 100 → I' q = I q) → (∀ t, t ≤ p → t ≠ 0 → t &&& s = t → m_kv I' t (k_v ys mb co N t)) → zV X 6 [some (.ref 71), some (.int (nI s)), some (.int (nI p))] [] (n, K, L, I', J, G) 0 0 := by
  intro k
  induction k with
  | zero =>
    intro p I' hk hp ho h1
    have hle : p ≤ s := by rw [← hp]; exact Nat.and_le_right
    have e : p = s := by omega
    subst e
    refine zW_ok hj B238_6 6 _ _ _ _ _ b238_6 ?_
    simp only [B238_6, zW, z_wp1, z_ld, z_f0, z_f1, z_f2, z_f3, List.getElem?_cons_zero, List.getElem?_cons_succ, true_and, and_true, Int32.reduceOfInt, z_i10, z_i01, Int32.reduceLT, Int32.reduceLE, Int32.reduceAdd, Int32.reduceSub, z_set, z_set2, z_kil, List.set_cons_zero, List.set_cons_succ, List.take_succ_cons, List.take_zero, List.drop_succ_cons, List.drop_zero, List.reverse_cons, List.reverse_nil, List.nil_append, List.cons_append, List.getD_cons_succ, List.getD_cons_zero, List.getD_nil, List.length_cons, List.length_nil, List.map_cons, List.map_nil, List.sum_cons, List.sum_nil, Nat.reduceAdd, Nat.reduceLeDiff, Value.category, Option.toList, true_or, or_true, z_ua, ↓reduceIte, Nat.reduceEqDiff, eq_self, not_true_eq_false, not_false_eq_true, false_implies, true_implies, Classical.not_not, Nat.le_refl, Nat.zero_le]
    try dsimp only
    refine zW_ok hj B238_25 25 _ _ _ _ _ b238_25 ?_
    simp only [B238_25, zW, z_wp1, z_ld, z_f0, z_f1, z_f2, z_f3, List.getElem?_cons_zero, List.getElem?_cons_succ, true_and, and_true, Int32.reduceOfInt, z_i10, z_i01, Int32.reduceLT, Int32.reduceLE, Int32.reduceAdd, Int32.reduceSub, z_set, z_set2, z_kil, List.set_cons_zero, List.set_cons_succ, List.take_succ_cons, List.take_zero, List.drop_succ_cons, List.drop_zero, List.reverse_cons, List.reverse_nil, List.nil_append, List.cons_append, List.getD_cons_succ, List.getD_cons_zero, List.getD_nil, List.length_cons, List.length_nil, List.map_cons, List.map_nil, List.sum_cons, List.sum_nil, Nat.reduceAdd, Nat.reduceLeDiff, Value.category, Option.toList, true_or, or_true, z_ua, ↓reduceIte, Nat.reduceEqDiff, eq_self, not_true_eq_false, not_false_eq_true, false_implies, true_implies, Classical.not_not, Nat.le_refl, Nat.zero_le]
    try dsimp only
    exact hQ _ _ ⟨rfl, I', rfl, ho, fun t h0 ht => h1 t (by rw [← ht]; exact Nat.and_le_right) h0 ht⟩
  | succ k ih =>
    intro p I' hk hp ho h1
    have hle : p ≤ s := by rw [← hp]; exact Nat.and_le_right
    by_cases e : p = s
    · subst e
      refine zW_ok hj B238_6 6 _ _ _ _ _ b238_6 ?_
      simp only [B238_6, zW, z_wp1, z_ld, z_f0, z_f1, z_f2, z_f3, List.getElem?_cons_zero, List.getElem?_cons_succ, true_and, and_true, Int32.reduceOfInt, z_i10, z_i01, Int32.reduceLT, Int32.reduceLE, Int32.reduceAdd, Int32.reduceSub, z_set, z_set2, z_kil, List.set_cons_zero, List.set_cons_succ, List.take_succ_cons, List.take_zero, List.drop_succ_cons, List.drop_zero, List.reverse_cons, List.reverse_nil, List.nil_append, List.cons_append, List.getD_cons_succ, List.getD_cons_zero, List.getD_nil, List.length_cons, List.length_nil, List.map_cons, List.map_nil, List.sum_cons, List.sum_nil, Nat.reduceAdd, Nat.reduceLeDiff, Value.category, Option.toList, true_or, or_true, z_ua, ↓reduceIte, Nat.reduceEqDiff, eq_self, not_true_eq_false, not_false_eq_true, false_implies, true_implies, Classical.not_not, Nat.le_refl, Nat.zero_le]
      try dsimp only
      refine zW_ok hj B238_25 25 _ _ _ _ _ b238_25 ?_
      simp only [B238_25, zW, z_wp1, z_ld, z_f0, z_f1, z_f2, z_f3, List.getElem?_cons_zero, List.getElem?_cons_succ, true_and, and_true, Int32.reduceOfInt, z_i10, z_i01, Int32.reduceLT, Int32.reduceLE, Int32.reduceAdd, Int32.reduceSub, z_set, z_set2, z_kil, List.set_cons_zero, List.set_cons_succ, List.take_succ_cons, List.take_zero, List.drop_succ_cons, List.drop_zero, List.reverse_cons, List.reverse_nil, List.nil_append, List.cons_append, List.getD_cons_succ, List.getD_cons_zero, List.getD_nil, List.length_cons, List.length_nil, List.map_cons, List.map_nil, List.sum_cons, List.sum_nil, Nat.reduceAdd, Nat.reduceLeDiff, Value.category, Option.toList, true_or, or_true, z_ua, ↓reduceIte, Nat.reduceEqDiff, eq_self, not_true_eq_false, not_false_eq_true, false_implies, true_implies, Classical.not_not, Nat.le_refl, Nat.zero_le]
      try dsimp only
      exact hQ _ _ ⟨rfl, I', rfl, ho, fun t h0 ht => h1 t (by rw [← ht]; exact Nat.and_le_right) h0 ht⟩
    · have hlt : p < s := by omega
      obtain ⟨n1, n2, n3⟩ := z_nx_ok s p hp hlt
      have hle2 : z_nx s p ≤ s := by rw [← n2]; exact Nat.and_le_right
      have hne : ¬ nI p = nI s := fun q => e ((nI_eq (by omega) (by omega)).mp q)
      refine zW_ok hj B238_6 6 _ _ _ _ _ b238_6 ?_
      simp only [B238_6, zW, z_wp1, z_ld, z_f0, z_f1, z_f2, z_f3, List.getElem?_cons_zero, List.getElem?_cons_succ, true_and, and_true, Int32.reduceOfInt, z_i10, z_i01, Int32.reduceLT, Int32.reduceLE, Int32.reduceAdd, Int32.reduceSub, z_set, z_set2, z_kil, List.set_cons_zero, List.set_cons_succ, List.take_succ_cons, List.take_zero, List.drop_succ_cons, List.drop_zero, List.reverse_cons, List.reverse_nil, List.nil_append, List.cons_append, List.getD_cons_succ, List.getD_cons_zero, List.getD_nil, List.length_cons, List.length_nil, List.map_cons, List.map_nil, List.sum_cons, List.sum_nil, Nat.reduceAdd, Nat.reduceLeDiff, Value.category, Option.toList, true_or, or_true, z_ua, ↓reduceIte, Nat.reduceEqDiff, eq_self, not_true_eq_false, not_false_eq_true, false_implies, true_implies, Classical.not_not, Nat.le_refl, Nat.zero_le, sK71 hS, nI_nx hs16 hlt, hne]
      try dsimp only
      refine z_callQ (c237 (I := I') (s := z_nx s p) (ys := ys) (mb := mb) (co := co) hS (by rw [ho 71 (by decide) (by decide) (by decide)]; exact hN) hN12 (by omega) (fun i hi => by rw [ho 101 (by decide) (by decide) (by decide), ho 102 (by decide) (by decide) (by decide), ho 97 (by decide) (by decide) (by decide)]; exact hy i hi) (fun t ht ht0 hb => ?_)) (by omega) (by omega) (by omega) (Nat.le_of_ble_eq_true rfl) ?_
      · have hts : t &&& s = t := by
          rw [← nI_sb (by omega) (by omega), zb_sub']
          intro i hi
          have := hb i hi
          have h5 := zb_sub'.mp ((nI_sb (s := z_nx s p) (r := s) (by omega) (by omega)).mpr n2) i this
          exact h5
        refine h1 t ?_ ht0 hts
        rcases Nat.lt_or_ge p t with q | q
        · have := n3 t hts q
          omega
        · exact q
      · rintro r h' ⟨rfl, I2, rfl, a1, a2⟩
        simp only [zW, z_wp1, z_ld, z_f0, z_f1, z_f2, z_f3, List.getElem?_cons_zero, List.getElem?_cons_succ, true_and, and_true, Int32.reduceOfInt, z_i10, z_i01, Int32.reduceLT, Int32.reduceLE, Int32.reduceAdd, Int32.reduceSub, z_set, z_set2, z_kil, List.set_cons_zero, List.set_cons_succ, List.take_succ_cons, List.take_zero, List.drop_succ_cons, List.drop_zero, List.reverse_cons, List.reverse_nil, List.nil_append, List.cons_append, List.getD_cons_succ, List.getD_cons_zero, List.getD_nil, List.length_cons, List.length_nil, List.map_cons, List.map_nil, List.sum_cons, List.sum_nil, Nat.reduceAdd, Nat.reduceLeDiff, Value.category, Option.toList, true_or, or_true, z_ua, ↓reduceIte, Nat.reduceEqDiff, eq_self, not_true_eq_false, not_false_eq_true, false_implies, true_implies, Classical.not_not, Nat.le_refl, Nat.zero_le]
        try dsimp only
        refine ih (z_nx s p) I2 (by omega) n2 (fun q b1 b2 b3 => by rw [a1.1 q b1 b2 b3]; exact ho q b1 b2 b3) (fun t ht ht0 hts => ?_)
        by_cases et : t = z_nx s p
        · rw [et]; exact a2
        · have := a1.2 t et
          unfold m_kv
          rw [this.1, this.2.1, this.2.2]
          refine h1 t ?_ ht0 hts
          rcases Nat.lt_or_ge p t with q | q
          · have := n3 t hts q
            omega
          · exact q
abbrev mYs (I : Nat → Nat → Int32) (c F : Nat) (tr : Nat → (Int32 → Int32) → Int32) (v : Int32) (i : Nat) : Int32 := m_spl (mTv I c tr i) v F
abbrev mKV (I : Nat → Nat → Int32) (c F N : Nat) (tr : Nat → (Int32 → Int32) → Int32) (s : Nat) : Int32 × Int32 × Int32 := k_v (mYs I c F tr 1) (mYs I c F tr 2) (I 97) N s
/-- what keys leave alone -/
def m_offk (I I' : Nat → Nat → Int32) : Prop := ∀ q, q ≠ 84 → q ≠ 85 → q ≠ 98 → q ≠ 99 → q ≠ 100 → q ≠ 101 → q ≠ 102 → I' q = I q
theorem c238 (hS : SS K L G) (hst : m_st I c F N tr) (hs16 : s < 2 ^ 16) : z_Ctr l 4 238 [.ref 71, .int (nI s)] (n, K, L, I, J, G) 0 0 (fun r h' => r = none ∧ ∃ I', h' = (n, K, L, I', J, G) ∧ m_offk I I' ∧ (∀ i, i < N → I' 101 i = mYs I c F tr 1 i) ∧ ∀ t, t ≠ 0 → t &&& s = t → m_kv I' t (mKV I c F N tr t)) := by
  refine z_ctr (by decide) (by decide +kernel) (Nat.le_of_ble_eq_true rfl) (by decide +kernel) (fun X hl hj hd hm hs hsc hQ => ?_)
  show zV X 0 [some (.ref 71), some (.int (nI s)), none] [] _ 0 0
  refine zW_ok hj B238_0 0 _ _ _ _ _ b238_0 ?_
  simp only [B238_0, zW, z_wp1, z_ld, z_f0, z_f1, z_f2, z_f3, List.getElem?_cons_zero, List.getElem?_cons_succ, true_and, and_true, Int32.reduceOfInt, z_i10, z_i01, Int32.reduceLT, Int32.reduceLE, Int32.reduceAdd, Int32.reduceSub, z_set, z_set2, z_kil, List.set_cons_zero, List.set_cons_succ, List.take_succ_cons, List.take_zero, List.drop_succ_cons, List.drop_zero, List.reverse_cons, List.reverse_nil, List.nil_append, List.cons_append, List.getD_cons_succ, List.getD_cons_zero, List.getD_nil, List.length_cons, List.length_nil, List.map_cons, List.map_nil, List.sum_cons, List.sum_nil, Nat.reduceAdd, Nat.reduceLeDiff, Value.category, Option.toList, true_or, or_true, z_ua, ↓reduceIte, Nat.reduceEqDiff, eq_self, not_true_eq_false, not_false_eq_true, false_implies, true_implies, Classical.not_not, Nat.le_refl, Nat.zero_le, sK71 hS]
  try dsimp only
  refine z_callQ (c236 (I := I) hS hst) (by omega) (by omega) (by omega) (Nat.le_of_ble_eq_true rfl) ?_
  rintro r h' ⟨rfl, I1, rfl, ho, h1⟩
  obtain ⟨s1, s2, s3, s4, s5, s6, s7⟩ := ho.sm.st hst
  simp only [zW, z_wp1, z_ld, z_f0, z_f1, z_f2, z_f3, List.getElem?_cons_zero, List.getElem?_cons_succ, true_and, and_true, Int32.reduceOfInt, z_i10, z_i01, Int32.reduceLT, Int32.reduceLE, Int32.reduceAdd, Int32.reduceSub, z_set, z_set2, z_kil, List.set_cons_zero, List.set_cons_succ, List.take_succ_cons, List.take_zero, List.drop_succ_cons, List.drop_zero, List.reverse_cons, List.reverse_nil, List.nil_append, List.cons_append, List.getD_cons_succ, List.getD_cons_zero, List.getD_nil, List.length_cons, List.length_nil, List.map_cons, List.map_nil, List.sum_cons, List.sum_nil, Nat.reduceAdd, Nat.reduceLeDiff, Value.category, Option.toList, true_or, or_true, z_ua, ↓reduceIte, Nat.reduceEqDiff, eq_self, not_true_eq_false, not_false_eq_true, false_implies, true_implies, Classical.not_not, Nat.le_refl, Nat.zero_le]
  try dsimp only
  refine c238_loop (I := I1) (ys := mYs I c F tr 1) (mb := mYs I c F tr 2) (co := I 97) hS hj hd hm hs s5 s6 hs16 (fun i hi => ⟨(h1 i hi).1, (h1 i hi).2, by rw [ho 97 (by decide) (by decide) (by decide) (by decide)]⟩) ?_ s 0 I1 (by omega) (by simp) (fun _ _ _ _ => rfl) (fun t ht h0 => by omega)
  rintro r h' ⟨rfl, I2, rfl, a1, a2⟩
  refine hQ _ _ ⟨rfl, I2, rfl, fun q b1 b2 b3 b4 b5 b6 b7 => ?_, fun i hi => ?_, a2⟩
  · rw [a1 q b3 b4 b5]; exact ho q b1 b2 b6 b7
  · rw [a1 101 (by decide) (by decide) (by decide)]; exact (h1 i hi).1
end KEY2
