/-! The model's reader: what waits, and is settled -/
/-- what waits, the last first -/
def p_sk (I : Nat → Nat → Int32) (S : List Int32) : Prop := I 71 25 = nI S.length ∧ ∀ j x, S[j]? = some x → I 83 (S.length - 1 - j) = x
/-- how many of a kind stand at the end -/
def p_lc (w : Int32) : List Int32 → Nat
  | [] => 0
  | x :: r => if x = w then p_lc w r + 1 else 0
theorem p_lc_le (w : Int32) : ∀ S, p_lc w S ≤ S.length
  | [] => Nat.le_refl _
  | x :: r => by
    have := p_lc_le w r
    rw [p_lc, List.length_cons]
    split <;> omega
/-- what settling changes -/
def m_f2 (I I' : Nat → Nat → Int32) : Prop := (∀ q, q ≠ 71 → q ≠ 81 → q ≠ 82 → q ≠ 83 → I' q = I q) ∧ (∀ k, k ≠ 12 → k ≠ 13 → k ≠ 14 → k ≠ 15 → k ≠ 22 → k ≠ 26 → k ≠ 27 → k ≠ 25 → k ≠ 23 → I' 71 k = I 71 k) ∧ ∀ k, k < 900 → I' 81 k = I 81 k ∧ I' 82 k = I 82 k
theorem m_f2.rf (I : Nat → Nat → Int32) : m_f2 I I := ⟨fun _ _ _ _ _ => rfl, fun _ _ _ _ _ _ _ _ _ _ => rfl, fun _ _ => ⟨rfl, rfl⟩⟩
theorem m_f2.tr {I I1 I2 : Nat → Nat → Int32} (h1 : m_f2 I I1) (h2 : m_f2 I1 I2) : m_f2 I I2 := ⟨fun q a b c d => (h2.1 q a b c d).trans (h1.1 q a b c d), fun k a b c d e f g h i => (h2.2.1 k a b c d e f g h i).trans (h1.2.1 k a b c d e f g h i), fun k a => ⟨(h2.2.2 k a).1.trans (h1.2.2 k a).1, (h2.2.2 k a).2.trans (h1.2.2 k a).2⟩⟩
theorem m_fr.f2 {I I' : Nat → Nat → Int32} (h : m_fr I I') : m_f2 I I' := ⟨fun q a b c _ => h.1 q a b c, fun k a b c d e f g _ _ => h.2.1 k a b c d e f g, h.2.2⟩
theorem m_fr.sk {I I' : Nat → Nat → Int32} (h : m_fr I I') {S : List Int32} (hs : p_sk I S) : p_sk I' S := ⟨by rw [h.2.1 _ (by decide) (by decide) (by decide) (by decide) (by decide) (by decide) (by decide)]; exact hs.1, fun j x hj => by rw [h.1 83 (by decide) (by decide) (by decide)]; exact hs.2 j x hj⟩
theorem m_fr.op {I I' : Nat → Nat → Int32} (h : m_fr I I') : I' 71 23 = I 71 23 := h.2.1 _ (by decide) (by decide) (by decide) (by decide) (by decide) (by decide) (by decide)
section PAR7
variable {l : Launch} {n : Nat} {K L : Nat → Nat} {I : Nat → Nat → Int32} {J : Nat → Nat → Int64} {G : Nat → Nat → Value} {t : Nat → Int32} {N i : Nat} {ms : List (Int32 × Int32)} {S : List Int32}
theorem p_sk.push (h : p_sk I S) (w : Int32) : p_sk (z_u (z_u I 83 S.length w) 71 25 (nI (S.length + 1))) (w :: S) := by
  refine ⟨by rw [z_u_at, if_pos rfl]; rfl, fun j x hj => ?_⟩
  rw [z_u_ne (by decide), z_u_at]
  cases j with
  | zero =>
    simp at hj
    rw [if_pos (by simp), hj]
  | succ j =>
    have hj' : S[j]? = some x := by simpa using hj
    have hlt := (List.getElem?_eq_some_iff.mp hj').1
    rw [if_neg (by simp only [List.length_cons]; omega)]
    have := h.2 j x hj'
    rw [show (w :: S).length - 1 - (j + 1) = S.length - 1 - j by simp only [List.length_cons]; omega]
    exact this
theorem p_sk.pop {x : Int32} (h : p_sk I (x :: S)) : p_sk (z_u I 71 25 (nI S.length)) S := by
  refine ⟨by rw [z_u_at, if_pos rfl], fun j y hj => ?_⟩
  rw [z_u_ne (by decide)]
  have hlt := (List.getElem?_eq_some_iff.mp hj).1
  have := h.2 (j + 1) y (by simpa using hj)
  rw [show (x :: S).length - 1 - (j + 1) = S.length - 1 - j by simp only [List.length_cons]; omega] at this
  exact this
theorem p_sk.top {x : Int32} (h : p_sk I (x :: S)) : I 83 S.length = x := by
  have := h.2 0 x rfl
  rw [show (x :: S).length - 1 - 0 = S.length by simp] at this
  exact this
/-- waits -/
theorem c187 (hS : SS K L G) (hk : p_sk I S) (hl40 : S.length < 40) (w : Int32) : z_D l 0 187 [.ref 71, .int w] (n, K, L, I, J, G) none (n, K, L, z_u (z_u I 83 S.length w) 71 25 (nI (S.length + 1)), J, G) := by
  have e1 : (nI S.length).toNatClampNeg = S.length := nI_clamp (by omega)
  have v1 : vp_in (nI S.length) 40 := vp_in_nI (by omega) (by omega)
  have hp := hk.1
  refine z_ctr (by decide) (by decide +kernel) (Nat.le_of_ble_eq_true rfl) (by decide +kernel) (fun X hl hj hd hm hs hsc hQ => ?_)
  show zV X 0 [some (.ref 71), some (.int w)] [] _ 0 0
  refine zW_ok hj B187_0 0 _ _ _ _ _ b187_0 ?_
  simp only [B187_0, zW, z_wp1, z_ld, z_f0, z_f1, z_f2, z_f3, List.getElem?_cons_zero, List.getElem?_cons_succ, true_and, and_true, Int32.reduceOfInt, z_i10, z_i01, Int32.reduceLT, Int32.reduceLE, Int32.reduceAdd, Int32.reduceSub, z_set, z_set2, z_kil, List.set_cons_zero, List.set_cons_succ, List.take_succ_cons, List.take_zero, List.drop_succ_cons, List.drop_zero, List.reverse_cons, List.reverse_nil, List.nil_append, List.cons_append, List.getD_cons_succ, List.getD_cons_zero, List.getD_nil, List.length_cons, List.length_nil, List.map_cons, List.map_nil, List.sum_cons, List.sum_nil, Nat.reduceAdd, Nat.reduceLeDiff, Value.category, Option.toList, true_or, or_true, z_ua, ↓reduceIte, Nat.reduceEqDiff, eq_self, not_true_eq_false, not_false_eq_true, false_implies, true_implies, Classical.not_not, Nat.le_refl, Nat.zero_le, sK71 hS, sG71_24 hS, sK83 hS, sL83 hS, ‹I 71 25 = nI S.length›, e1, v1, nI_1]
  try dsimp only
  exact hQ _ _ ⟨rfl, rfl⟩
/-- settles -/
theorem c188_loop {X : zX} (hS : SS K L G) (hj : X.2.1 = 188) (hdp : X.2.2.1 = 1) (hm : X.2.2.2.1 = 0) (hs : X.2.2.2.2.1 = 0) {w : Int32} : ∀ (S : List Int32) (ms : List (Int32 × Int32)) (I' : Nat → Nat → Int32), p_sk I' S → p_cd I' ms → ms.length + S.length ≤ 800 → S.length < 40 → m_f2 I I' → (∀ k, k ≠ 22 → k ≠ 25 → k ≠ 23 → I' 71 k = I 71 k) → (∀ I2, m_f2 I I2 → (∀ k, k ≠ 22 → k ≠ 25 → k ≠ 23 → I2 71 k = I 71 k) → p_sk I2 (S.drop (p_lc w S)) → p_cd I2 (ms ++ List.replicate (p_lc w S) (w, 0)) → I2 71 23 = (if w = 9 then I' 71 23 - nI (p_lc w S) else I' 71 23) → X.2.2.2.2.2.2 none (n, K, L, I2, J, G)) → zV X 0 [some (.ref 71), some (.int w)] [] (n, K, L, I', J, G) 0 0
  | [], ms, I', hk, hc, h8, h40, hf, hg, hQ => by
    have hp : I' 71 25 = 0 := by rw [hk.1]; exact nI_0
    refine zW_ok hj B188_0 0 _ _ _ _ _ b188_0 ?_
    simp only [B188_0, zW, z_wp1, z_ld, z_f0, z_f1, z_f2, z_f3, List.getElem?_cons_zero, List.getElem?_cons_succ, true_and, and_true, Int32.reduceOfInt, z_i10, z_i01, Int32.reduceLT, Int32.reduceLE, Int32.reduceAdd, Int32.reduceSub, z_set, z_set2, z_kil, List.set_cons_zero, List.set_cons_succ, List.take_succ_cons, List.take_zero, List.drop_succ_cons, List.drop_zero, List.reverse_cons, List.reverse_nil, List.nil_append, List.cons_append, List.getD_cons_succ, List.getD_cons_zero, List.getD_nil, List.length_cons, List.length_nil, List.map_cons, List.map_nil, List.sum_cons, List.sum_nil, Nat.reduceAdd, Nat.reduceLeDiff, Value.category, Option.toList, true_or, or_true, z_ua, ↓reduceIte, Nat.reduceEqDiff, eq_self, not_true_eq_false, not_false_eq_true, false_implies, true_implies, Classical.not_not, Nat.le_refl, Nat.zero_le, sK71 hS, hp]
    try dsimp only
    refine zW_ok hj B188_57 57 _ _ _ _ _ b188_57 ?_
    simp only [B188_57, zW, z_wp1, z_ld, z_f0, z_f1, z_f2, z_f3, List.getElem?_cons_zero, List.getElem?_cons_succ, true_and, and_true, Int32.reduceOfInt, z_i10, z_i01, Int32.reduceLT, Int32.reduceLE, Int32.reduceAdd, Int32.reduceSub, z_set, z_set2, z_kil, List.set_cons_zero, List.set_cons_succ, List.take_succ_cons, List.take_zero, List.drop_succ_cons, List.drop_zero, List.reverse_cons, List.reverse_nil, List.nil_append, List.cons_append, List.getD_cons_succ, List.getD_cons_zero, List.getD_nil, List.length_cons, List.length_nil, List.map_cons, List.map_nil, List.sum_cons, List.sum_nil, Nat.reduceAdd, Nat.reduceLeDiff, Value.category, Option.toList, true_or, or_true, z_ua, ↓reduceIte, Nat.reduceEqDiff, eq_self, not_true_eq_false, not_false_eq_true, false_implies, true_implies, Classical.not_not, Nat.le_refl, Nat.zero_le]
    try dsimp only
    refine hQ I' hf hg hk (by rw [p_lc]; simpa using hc) ?_
    rw [p_lc, nI_0]
    by_cases z : w = 9
    · rw [if_pos z]; simp
    · rw [if_neg z]
  | x :: r, ms, I', hk, hc, h8, h40, hf, hg, hQ => by
    have hp := hk.1
    rw [List.length_cons] at hp h8 h40
    have np : ¬ nI (r.length + 1) ≤ 0 := fun q => by
      have := (nI_leI (a := r.length + 1) (b := 0) (by omega) (by omega)).mp q
      omega
    have e1 : (nI r.length).toNatClampNeg = r.length := nI_clamp (by omega)
    have v1 : vp_in (nI r.length) 40 := vp_in_nI (by omega) (by omega)
    have ep : nI (r.length + 1) - 1 = nI r.length := nI_pred _
    have htop := hk.top
    by_cases hx : x = w
    · subst hx
      rw [p_lc, if_pos rfl] at hQ
      refine zW_ok hj B188_0 0 _ _ _ _ _ b188_0 ?_
      simp only [B188_0, zW, z_wp1, z_ld, z_f0, z_f1, z_f2, z_f3, List.getElem?_cons_zero, List.getElem?_cons_succ, true_and, and_true, Int32.reduceOfInt, z_i10, z_i01, Int32.reduceLT, Int32.reduceLE, Int32.reduceAdd, Int32.reduceSub, z_set, z_set2, z_kil, List.set_cons_zero, List.set_cons_succ, List.take_succ_cons, List.take_zero, List.drop_succ_cons, List.drop_zero, List.reverse_cons, List.reverse_nil, List.nil_append, List.cons_append, List.getD_cons_succ, List.getD_cons_zero, List.getD_nil, List.length_cons, List.length_nil, List.map_cons, List.map_nil, List.sum_cons, List.sum_nil, Nat.reduceAdd, Nat.reduceLeDiff, Value.category, Option.toList, true_or, or_true, z_ua, ↓reduceIte, Nat.reduceEqDiff, eq_self, not_true_eq_false, not_false_eq_true, false_implies, true_implies, Classical.not_not, Nat.le_refl, Nat.zero_le, sK71 hS, sG71_24 hS, sK83 hS, sL83 hS, hp, np, ep, e1, v1, htop]
      try dsimp only
      have hk2 := hk.pop
      have hc2 : p_cd (z_u I' 71 25 (nI r.length)) ms := ⟨by rw [z_u_at, if_neg (by decide)]; exact hc.1, fun j y hj => by rw [z_u_ne (by decide), z_u_ne (by decide)]; exact hc.2 j y hj⟩
      refine z_callQ (c182 (I := z_u I' 71 25 (nI r.length)) (J := J) hS hc2 (by omega) x 0) (by omega) (by omega) (by omega) (Nat.le_of_ble_eq_true rfl) ?_
      rintro r' h' ⟨rfl, I3, rfl, f3, g3, cc3⟩
      have hk3 := f3.sk hk2
      have ho3 : I3 71 23 = I' 71 23 := by rw [f3.op, z_u_at, if_neg (by decide)]
      have hf3 : m_f2 I I3 := (hf.tr ⟨fun q a _ _ _ => by rw [z_u_ne a], fun k _ _ _ _ _ _ _ h _ => by rw [z_u_at, if_neg h], fun k _ => by rw [z_u_ne (by decide), z_u_ne (by decide)]; exact ⟨rfl, rfl⟩⟩).tr f3.f2
      have hg3 : ∀ k, k ≠ 22 → k ≠ 25 → k ≠ 23 → I3 71 k = I 71 k := fun k a b c => by rw [g3 k a, z_u_at, if_neg b]; exact hg k a b c
      have hlen3 : (ms ++ [(x, (0 : Int32))]).length + r.length ≤ 800 := by rw [List.length_append]; show ms.length + 1 + r.length ≤ 800; omega
      have fin : ∀ (I4 : Nat → Nat → Int32), ms ++ [(x, (0 : Int32))] ++ List.replicate (p_lc x r) (x, 0) = ms ++ List.replicate (p_lc x r + 1) (x, 0) := fun _ => by
        rw [List.append_assoc, List.replicate_succ]
        rfl
      simp only [zW, z_wp1, z_ld, z_f0, z_f1, z_f2, z_f3, List.getElem?_cons_zero, List.getElem?_cons_succ, true_and, and_true, Int32.reduceOfInt, z_i10, z_i01, Int32.reduceLT, Int32.reduceLE, Int32.reduceAdd, Int32.reduceSub, z_set, z_set2, z_kil, List.set_cons_zero, List.set_cons_succ, List.take_succ_cons, List.take_zero, List.drop_succ_cons, List.drop_zero, List.reverse_cons, List.reverse_nil, List.nil_append, List.cons_append, List.getD_cons_succ, List.getD_cons_zero, List.getD_nil, List.length_cons, List.length_nil, List.map_cons, List.map_nil, List.sum_cons, List.sum_nil, Nat.reduceAdd, Nat.reduceLeDiff, Value.category, Option.toList, true_or, or_true, z_ua, ↓reduceIte, Nat.reduceEqDiff, eq_self, not_true_eq_false, not_false_eq_true, false_implies, true_implies, Classical.not_not, Nat.le_refl, Nat.zero_le, sK71 hS]
      try dsimp only
      refine ⟨fun h9 => ?_, fun h9 => ?_⟩
      · refine c188_loop hS hj hdp hm hs r (ms ++ [(x, 0)]) I3 hk3 cc3 hlen3 (by omega) hf3 hg3 (fun I4 a1 a2 a3 a4 a5 => hQ I4 a1 a2 (by rw [List.drop_succ_cons]; exact a3) (by rw [← fin I4]; exact a4) ?_)
        rw [a5, if_neg h9, if_neg h9, ho3]
      · refine c188_loop hS hj hdp hm hs r (ms ++ [(x, 0)]) (z_u I3 71 23 (I3 71 23 - 1)) ⟨by rw [z_u_at, if_neg (by decide)]; exact hk3.1, fun j y hj => by rw [z_u_ne (by decide)]; exact hk3.2 j y hj⟩ ⟨by rw [z_u_at, if_neg (by decide)]; exact cc3.1, fun j y hj => by rw [z_u_ne (by decide), z_u_ne (by decide)]; exact cc3.2 j y hj⟩ hlen3 (by omega) (hf3.tr ⟨fun q a _ _ _ => by rw [z_u_ne a], fun k _ _ _ _ _ _ _ _ h => by rw [z_u_at, if_neg h], fun k _ => by rw [z_u_ne (by decide), z_u_ne (by decide)]; exact ⟨rfl, rfl⟩⟩) (fun k a b c => by rw [z_u_at, if_neg c]; exact hg3 k a b c) (fun I4 a1 a2 a3 a4 a5 => hQ I4 a1 a2 (by rw [List.drop_succ_cons]; exact a3) (by rw [← fin I4]; exact a4) ?_)
        rw [a5, if_pos h9, if_pos h9, z_u_at, if_pos rfl, ho3, ← nI_1]
        grind
    · rw [p_lc, if_neg hx] at hQ
      refine zW_ok hj B188_0 0 _ _ _ _ _ b188_0 ?_
      simp only [B188_0, zW, z_wp1, z_ld, z_f0, z_f1, z_f2, z_f3, List.getElem?_cons_zero, List.getElem?_cons_succ, true_and, and_true, Int32.reduceOfInt, z_i10, z_i01, Int32.reduceLT, Int32.reduceLE, Int32.reduceAdd, Int32.reduceSub, z_set, z_set2, z_kil, List.set_cons_zero, List.set_cons_succ, List.take_succ_cons, List.take_zero, List.drop_succ_cons, List.drop_zero, List.reverse_cons, List.reverse_nil, List.nil_append, List.cons_append, List.getD_cons_succ, List.getD_cons_zero, List.getD_nil, List.length_cons, List.length_nil, List.map_cons, List.map_nil, List.sum_cons, List.sum_nil, Nat.reduceAdd, Nat.reduceLeDiff, Value.category, Option.toList, true_or, or_true, z_ua, ↓reduceIte, Nat.reduceEqDiff, eq_self, not_true_eq_false, not_false_eq_true, false_implies, true_implies, Classical.not_not, Nat.le_refl, Nat.zero_le, sK71 hS, sG71_24 hS, sK83 hS, sL83 hS, hp, np, ep, e1, v1, htop]
      try dsimp only
      refine ⟨fun _ => ?_, fun q => absurd q hx⟩
      refine zW_ok hj B188_57 57 _ _ _ _ _ b188_57 ?_
      simp only [B188_57, zW, z_wp1, z_ld, z_f0, z_f1, z_f2, z_f3, List.getElem?_cons_zero, List.getElem?_cons_succ, true_and, and_true, Int32.reduceOfInt, z_i10, z_i01, Int32.reduceLT, Int32.reduceLE, Int32.reduceAdd, Int32.reduceSub, z_set, z_set2, z_kil, List.set_cons_zero, List.set_cons_succ, List.take_succ_cons, List.take_zero, List.drop_succ_cons, List.drop_zero, List.reverse_cons, List.reverse_nil, List.nil_append, List.cons_append, List.getD_cons_succ, List.getD_cons_zero, List.getD_nil, List.length_cons, List.length_nil, List.map_cons, List.map_nil, List.sum_cons, List.sum_nil, Nat.reduceAdd, Nat.reduceLeDiff, Value.category, Option.toList, true_or, or_true, z_ua, ↓reduceIte, Nat.reduceEqDiff, eq_self, not_true_eq_false, not_false_eq_true, false_implies, true_implies, Classical.not_not, Nat.le_refl, Nat.zero_le]
      try dsimp only
      refine hQ I' hf hg hk (by simpa using hc) ?_
      rw [nI_0]
      by_cases z : w = 9
      · rw [if_pos z]; simp
      · rw [if_neg z]
theorem c188 (hS : SS K L G) (hk : p_sk I S) (hc : p_cd I ms) (h8 : ms.length + S.length ≤ 800) (h40 : S.length < 40) (w : Int32) : z_Ctr l 1 188 [.ref 71, .int w] (n, K, L, I, J, G) 0 0 (fun r h' => r = none ∧ ∃ I2, h' = (n, K, L, I2, J, G) ∧ m_f2 I I2 ∧ (∀ k, k ≠ 22 → k ≠ 25 → k ≠ 23 → I2 71 k = I 71 k) ∧ p_sk I2 (S.drop (p_lc w S)) ∧ p_cd I2 (ms ++ List.replicate (p_lc w S) (w, 0)) ∧ I2 71 23 = (if w = 9 then I 71 23 - nI (p_lc w S) else I 71 23)) := by
  refine z_ctr (by decide) (by decide +kernel) (Nat.le_of_ble_eq_true rfl) (by decide +kernel) (fun X hl hj hd hm hs hsc hQ => ?_)
  show zV X 0 [some (.ref 71), some (.int w)] [] _ 0 0
  exact c188_loop (I := I) hS hj hd hm hs S ms I hk hc h8 h40 (m_f2.rf I) (fun _ _ _ _ => rfl) (fun I2 a b c d e => hQ _ _ ⟨rfl, I2, rfl, a, b, c, d, e⟩)
end PAR7
