/-! The model: what is known -/
/-- the latest telling of a keeper on a measure of a find, not after a day: by the five arrays, among the first c -/
def m_kn (tk tf tm tv td : Nat → Int32) (k f m d : Int32) : Nat → Int32
  | 0 => -1
  | c + 1 => if tk c = k ∧ tf c = f ∧ tm c = m ∧ td c ≤ d then tv c else m_kn tk tf tm tv td k f m d c
/-- what is known in a view -/
def m_known (tk tf tm tv td : Nat → Int32) (c : Nat) (k f m d : Int32) : Int32 :=
  if k < 2 then m_kn tk tf tm tv td k f m d c
  else if m_kn tk tf tm tv td 0 f m d c = -1 then m_kn tk tf tm tv td 1 f m d c
  else if m_kn tk tf tm tv td 1 f m d c = -1 then m_kn tk tf tm tv td 0 f m d c
  else if m_kn tk tf tm tv td 0 f m d c = m_kn tk tf tm tv td 1 f m d c then m_kn tk tf tm tv td 0 f m d c else -1
section M3
variable {l : Launch} {n : Nat} {K L : Nat → Nat} {I : Nat → Nat → Int32} {J : Nat → Nat → Int64} {G : Nat → Nat → Value}
abbrev mI_kn (I : Nat → Nat → Int32) (c : Nat) (k f m d : Int32) : Int32 := m_kn (I 72) (I 73) (I 74) (I 75) (I 76) k f m d c
abbrev mI_known (I : Nat → Nat → Int32) (c : Nat) (k f m d : Int32) : Int32 := m_known (I 72) (I 73) (I 74) (I 75) (I 76) c k f m d
theorem c166_loop {X : zX} (hS : SS K L G) (hj : X.2.1 = 166) {k f m d r0 : Int32} (hQ : ∀ r h', r = some (.int r0) ∧ h' = (n, K, L, I, J, G) → X.2.2.2.2.2.2 r h') : ∀ c : Nat, c ≤ 400 → mI_kn I c k f m d = r0 → zV X 8 [some (.ref 71), some (.int k), some (.int f), some (.int m), some (.int d), some (.int (nI c - 1))] [] (n, K, L, I, J, G) 0 0
  | 0, _, hr => by
    refine zW_ok hj B166_8 8 _ _ _ _ _ b166_8 ?_
    simp only [B166_8, zW, z_wp1, z_ld, z_f0, z_f1, z_f2, z_f3, List.getElem?_cons_zero, List.getElem?_cons_succ, true_and, and_true, Int32.reduceOfInt, z_i10, z_i01, Int32.reduceLT, Int32.reduceLE, Int32.reduceAdd, Int32.reduceSub, z_set, z_set2, z_kil, List.set_cons_zero, List.set_cons_succ, List.take_succ_cons, List.take_zero, List.drop_succ_cons, List.drop_zero, List.reverse_cons, List.reverse_nil, List.nil_append, List.cons_append, List.getD_cons_succ, List.getD_cons_zero, List.getD_nil, List.length_cons, List.length_nil, List.map_cons, List.map_nil, List.sum_cons, List.sum_nil, Nat.reduceAdd, Nat.reduceLeDiff, Value.category, Option.toList, true_or, or_true, z_ua, ↓reduceIte, Nat.reduceEqDiff, eq_self, not_true_eq_false, not_false_eq_true, false_implies, true_implies, Classical.not_not, Nat.le_refl, Nat.zero_le, sG71_3 hS, sK72 hS, sL72 hS, sG71_4 hS, sK73 hS, sL73 hS, sG71_5 hS, sK74 hS, sL74 hS, sG71_6 hS, sK75 hS, sL75 hS, sG71_7 hS, sK76 hS, sL76 hS, sK71 hS]
    try dsimp only
    refine ⟨fun _ => ?_, fun hc => absurd (by decide) hc⟩
    refine zW_ok hj B166_72 72 _ _ _ _ _ b166_72 ?_
    simp only [B166_72, zW, z_wp1, z_ld, z_f0, z_f1, z_f2, z_f3, List.getElem?_cons_zero, List.getElem?_cons_succ, true_and, and_true, Int32.reduceOfInt, z_i10, z_i01, Int32.reduceLT, Int32.reduceLE, Int32.reduceAdd, Int32.reduceSub, z_set, z_set2, z_kil, List.set_cons_zero, List.set_cons_succ, List.take_succ_cons, List.take_zero, List.drop_succ_cons, List.drop_zero, List.reverse_cons, List.reverse_nil, List.nil_append, List.cons_append, List.getD_cons_succ, List.getD_cons_zero, List.getD_nil, List.length_cons, List.length_nil, List.map_cons, List.map_nil, List.sum_cons, List.sum_nil, Nat.reduceAdd, Nat.reduceLeDiff, Value.category, Option.toList, true_or, or_true, z_ua, ↓reduceIte, Nat.reduceEqDiff, eq_self, not_true_eq_false, not_false_eq_true, false_implies, true_implies, Classical.not_not, Nat.le_refl, Nat.zero_le]
    try dsimp only
    exact hQ _ _ ⟨by rw [← hr]; rfl, rfl⟩
  | c + 1, hc, hr => by
    have e1 : nI (c + 1) - 1 = nI c := nI_pred c
    have e2 : (nI c).toNatClampNeg = c := nI_clamp (by omega)
    have e3 : vp_in (nI c) 400 := vp_in_nI (by omega) (by omega)
    have e4 : nI c + Int32.ofInt (-1) = nI c - 1 := by rw [show (Int32.ofInt (-1)) = -1 from rfl, Int32.sub_eq_add_neg]
    have go : mI_kn I c k f m d = r0 → zV X 66 [some (.ref 71), some (.int k), some (.int f), some (.int m), some (.int d), some (.int (nI c))] [] (n, K, L, I, J, G) 0 0 := fun hr' => by
      refine zW_ok hj B166_66 66 _ _ _ _ _ b166_66 ?_
      simp only [B166_66, zW, z_wp1, z_ld, z_f0, z_f1, z_f2, z_f3, List.getElem?_cons_zero, List.getElem?_cons_succ, true_and, and_true, Int32.reduceOfInt, z_i10, z_i01, Int32.reduceLT, Int32.reduceLE, Int32.reduceAdd, Int32.reduceSub, z_set, z_set2, z_kil, List.set_cons_zero, List.set_cons_succ, List.take_succ_cons, List.take_zero, List.drop_succ_cons, List.drop_zero, List.reverse_cons, List.reverse_nil, List.nil_append, List.cons_append, List.getD_cons_succ, List.getD_cons_zero, List.getD_nil, List.length_cons, List.length_nil, List.map_cons, List.map_nil, List.sum_cons, List.sum_nil, Nat.reduceAdd, Nat.reduceLeDiff, Value.category, Option.toList, true_or, or_true, z_ua, ↓reduceIte, Nat.reduceEqDiff, eq_self, not_true_eq_false, not_false_eq_true, false_implies, true_implies, Classical.not_not, Nat.le_refl, Nat.zero_le]
      try dsimp only
      have := c166_loop hS hj hQ c (by omega) hr'
      simpa only [e4, Int32.sub_eq_add_neg] using this
    have hr2 : (if I 72 c = k ∧ I 73 c = f ∧ I 74 c = m ∧ I 76 c ≤ d then I 75 c else mI_kn I c k f m d) = r0 := hr
    rw [e1]
    refine zW_ok hj B166_8 8 _ _ _ _ _ b166_8 ?_
    simp only [B166_8, zW, z_wp1, z_ld, z_f0, z_f1, z_f2, z_f3, List.getElem?_cons_zero, List.getElem?_cons_succ, true_and, and_true, Int32.reduceOfInt, z_i10, z_i01, Int32.reduceLT, Int32.reduceLE, Int32.reduceAdd, Int32.reduceSub, z_set, z_set2, z_kil, List.set_cons_zero, List.set_cons_succ, List.take_succ_cons, List.take_zero, List.drop_succ_cons, List.drop_zero, List.reverse_cons, List.reverse_nil, List.nil_append, List.cons_append, List.getD_cons_succ, List.getD_cons_zero, List.getD_nil, List.length_cons, List.length_nil, List.map_cons, List.map_nil, List.sum_cons, List.sum_nil, Nat.reduceAdd, Nat.reduceLeDiff, Value.category, Option.toList, true_or, or_true, z_ua, ↓reduceIte, Nat.reduceEqDiff, eq_self, not_true_eq_false, not_false_eq_true, false_implies, true_implies, Classical.not_not, Nat.le_refl, Nat.zero_le, sG71_3 hS, sK72 hS, sL72 hS, sG71_4 hS, sK73 hS, sL73 hS, sG71_5 hS, sK74 hS, sL74 hS, sG71_6 hS, sK75 hS, sL75 hS, sG71_7 hS, sK76 hS, sL76 hS, sK71 hS, e2, e3]
    try dsimp only
    refine ⟨fun hn => absurd hn (nI_pos (by omega)), fun _ => ⟨fun h1 => go ?_, fun h1 => ⟨fun h2 => go ?_, fun h2 => ⟨fun h3 => go ?_, fun h3 => ⟨fun h4 => go ?_, fun h4 => ?_⟩⟩⟩⟩⟩
    · rw [if_neg (fun z => h1 z.1)] at hr2; exact hr2
    · rw [if_neg (fun z => h2 z.2.1)] at hr2; exact hr2
    · rw [if_neg (fun z => h3 z.2.2.1)] at hr2; exact hr2
    · rw [if_neg (fun z => Int32.not_le.mpr h4 z.2.2.2)] at hr2; exact hr2
    · rw [if_pos ⟨h1, h2, h3, Int32.not_lt.mp h4⟩] at hr2
      exact hQ _ _ ⟨by rw [← hr2], rfl⟩
/-- knownOf -/
theorem c166 (hS : SS K L G) {c : Nat} (hc : I 71 2 = nI c) (hc4 : c ≤ 400) (k f m d : Int32) : z_D l 0 166 [.ref 71, .int k, .int f, .int m, .int d] (n, K, L, I, J, G) (some (.int (mI_kn I c k f m d))) (n, K, L, I, J, G) := by
  refine z_ctr (by decide) (by decide +kernel) (Nat.le_of_ble_eq_true rfl) (by decide +kernel) (fun X hl hj hd hm hs hsc hQ => ?_)
  show zV X 0 [some (.ref 71), some (.int k), some (.int f), some (.int m), some (.int d), none] [] _ 0 0
  refine zW_ok hj B166_0 0 _ _ _ _ _ b166_0 ?_
  simp only [B166_0, zW, z_wp1, z_ld, z_f0, z_f1, z_f2, z_f3, List.getElem?_cons_zero, List.getElem?_cons_succ, true_and, and_true, Int32.reduceOfInt, z_i10, z_i01, Int32.reduceLT, Int32.reduceLE, Int32.reduceAdd, Int32.reduceSub, z_set, z_set2, z_kil, List.set_cons_zero, List.set_cons_succ, List.take_succ_cons, List.take_zero, List.drop_succ_cons, List.drop_zero, List.reverse_cons, List.reverse_nil, List.nil_append, List.cons_append, List.getD_cons_succ, List.getD_cons_zero, List.getD_nil, List.length_cons, List.length_nil, List.map_cons, List.map_nil, List.sum_cons, List.sum_nil, Nat.reduceAdd, Nat.reduceLeDiff, Value.category, Option.toList, true_or, or_true, z_ua, ↓reduceIte, Nat.reduceEqDiff, eq_self, not_true_eq_false, not_false_eq_true, false_implies, true_implies, Classical.not_not, Nat.le_refl, Nat.zero_le, sK71 hS, hc]
  try dsimp only
  exact c166_loop hS hj hQ c hc4 rfl
end M3
