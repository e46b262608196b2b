/-! The class: rules made fresh -/
section LAT5
variable {l : Launch} {n : Nat} {K L : Nat → Nat} {I : Nat → Nat → Int32} {J : Nat → Nat → Int64} {G : Nat → Nat → Value} {lp c1 c2 c3 c4 S S2 N F cd uc us : Nat} {cl : Int32 → Int32}
theorem c33_59 {X : zX} (hL : XL K L G lp c1 c2 S) (hL2 : XL2 K L G lp c1 c3 c4 S2) (hj : X.2.1 = 33) (hd : X.2.2.1 = 1) (huc : uc ≤ X.2.2.2.1) (hus : us ≤ X.2.2.2.2.1) (hN12 : N ≤ 12) (hS1 : 2 ^ N ≤ S) (hS2 : 2 ^ N ≤ S2) (hmk : I lp 0 = nI N) (hsz : I lp 1 = nI (2 ^ N)) (hcl : ∀ s, s < 2 ^ N → I c1 s = cl (nI s)) (hQ : ∀ I', (∀ q, q ≠ lp → q ≠ c3 → q ≠ c4 → I' q = I q) → (∀ k, k ≠ 8 → I' lp k = I lp k) → I' lp 8 = nI (m_rl nI cl (2 ^ N)).length → m_lst (I' c4) ((m_rl nI cl (2 ^ N)).map Prod.fst) → X.2.2.2.2.2.2 none (n, K, L, I', J, G)) : ∀ (k s : Nat) (I' : Nat → Nat → Int32) (x : Option Value), s + k = 2 ^ N → (∀ q, q ≠ lp → q ≠ c3 → q ≠ c4 → I' q = I q) → (∀ k, k ≠ 8 → I' lp k = I lp k) → I' lp 8 = nI (m_rl nI cl s).length → m_lst (I' c4) ((m_rl nI cl s).map Prod.fst) → (∀ t, t < s → x_G cl t (I' c3 t)) → zV X 59 [some (.ref lp), some (.int (nI s)), x] [] (n, K, L, I', J, G) uc us
  | 0, s, I', x, hk, h1, h2, h3, h4, h5 => by
    obtain ⟨q1, q2, q3, q4, q5, q6, q7, q8, q9, q10, q11, q12, q13, q14⟩ := hL
    have hp := z_pow hN12
    have e : s = 2 ^ N := by omega
    subst e
    have hsz' : I' lp 1 = nI (2 ^ N) := by rw [h2 1 (by omega)]; exact hsz
    refine zW_ok hj B33_59 59 _ _ _ _ _ b33_59 ?_
    simp only [B33_59, zW, z_wp1, z_ld, z_f0, z_f1, z_f2, z_f3, List.getElem?_cons_zero, List.getElem?_cons_succ, true_and, and_true, Int32.reduceOfInt, z_i10, z_i01, Int32.reduceLT, Int32.reduceLE, Int32.reduceAdd, Int32.reduceSub, z_set, z_set2, z_kil, List.set_cons_zero, List.set_cons_succ, List.take_succ_cons, List.take_zero, List.drop_succ_cons, List.drop_zero, List.reverse_cons, List.reverse_nil, List.nil_append, List.cons_append, List.getD_cons_succ, List.getD_cons_zero, List.getD_nil, List.length_cons, List.length_nil, List.map_cons, List.map_nil, List.sum_cons, List.sum_nil, Nat.reduceAdd, Nat.reduceLeDiff, Value.category, Option.toList, true_or, or_true, z_ua, ↓reduceIte, Nat.reduceEqDiff, eq_self, not_true_eq_false, not_false_eq_true, false_implies, true_implies, Classical.not_not, Nat.le_refl, Nat.zero_le, q1, hsz']
    try dsimp only
    refine ⟨fun _ => ?_, fun hc => absurd (nI_le (Nat.le_refl _) (by omega)) hc⟩
    refine zW_ok hj B33_133 133 _ _ _ _ _ b33_133 ?_
    simp only [B33_133, zW, z_wp1, z_ld, z_f0, z_f1, z_f2, z_f3, List.getElem?_cons_zero, List.getElem?_cons_succ, true_and, and_true, Int32.reduceOfInt, z_i10, z_i01, Int32.reduceLT, Int32.reduceLE, Int32.reduceAdd, Int32.reduceSub, z_set, z_set2, z_kil, List.set_cons_zero, List.set_cons_succ, List.take_succ_cons, List.take_zero, List.drop_succ_cons, List.drop_zero, List.reverse_cons, List.reverse_nil, List.nil_append, List.cons_append, List.getD_cons_succ, List.getD_cons_zero, List.getD_nil, List.length_cons, List.length_nil, List.map_cons, List.map_nil, List.sum_cons, List.sum_nil, Nat.reduceAdd, Nat.reduceLeDiff, Value.category, Option.toList, true_or, or_true, z_ua, ↓reduceIte, Nat.reduceEqDiff, eq_self, not_true_eq_false, not_false_eq_true, false_implies, true_implies, Classical.not_not, Nat.le_refl, Nat.zero_le]
    try dsimp only
    exact hQ I' h1 h2 h3 h4
  | k + 1, s, I', x, hk, h1, h2, h3, h4, h5 => by
    obtain ⟨q1, q2, q3, q4, q5, q6, q7, q8, q9, q10, q11, q12, q13, q14⟩ := id hL
    obtain ⟨r1, r2, r3, r4, r5, r6, r7, r8, r9, r10, r11, r12, r13, r14, r15⟩ := id hL2
    have hp := z_pow hN12
    have hsz' : I' lp 1 = nI (2 ^ N) := by rw [h2 1 (by omega)]; exact hsz
    have hmk' : I' lp 0 = nI N := by rw [h2 0 (by omega)]; exact hmk
    have hlen := m_rl_len nI cl s
    have hc1 : I' c1 s = cl (nI s) := by rw [h1 c1 q9 r14 r15]; exact hcl s (by omega)
    have e1 : (nI s).toNatClampNeg = s := nI_clamp (by omega)
    have v1 : vp_in (nI s) S := vp_in_nI (by omega) q5
    have v1' : vp_in (nI s) S2 := vp_in_nI (by omega) r4
    have e2 : (nI (m_rl nI cl s).length).toNatClampNeg = (m_rl nI cl s).length := nI_clamp (by omega)
    have v2 : vp_in (nI (m_rl nI cl s).length) S2 := vp_in_nI (by omega) r4
    have hB := x_gb_B (cl := cl) (g := I' c3) (N := N) (by omega) (show s < 2 ^ N by omega) h5
    have d1 : ¬ c1 = c4 := r15
    have fin : ∀ (I2 : Nat → Nat → Int32) (y : Int32), (∀ q, q ≠ lp → q ≠ c4 → I2 q = I' q) → (∀ k, k ≠ 8 → I2 lp k = I lp k) → I2 lp 8 = nI (m_rl nI cl (s + 1)).length → m_lst (I2 c4) ((m_rl nI cl (s + 1)).map Prod.fst) → x_G cl s y → zV X 120 [some (.ref lp), some (.int (nI s)), some (.int y)] [] (n, K, L, I2, J, G) uc us := by
      intro I2 y g1 g2 g3 g4 g5
      refine zW_ok hj B33_120 120 _ _ _ _ _ b33_120 ?_
      simp only [B33_120, zW, z_wp1, z_ld, z_f0, z_f1, z_f2, z_f3, List.getElem?_cons_zero, List.getElem?_cons_succ, true_and, and_true, Int32.reduceOfInt, z_i10, z_i01, Int32.reduceLT, Int32.reduceLE, Int32.reduceAdd, Int32.reduceSub, z_set, z_set2, z_kil, List.set_cons_zero, List.set_cons_succ, List.take_succ_cons, List.take_zero, List.drop_succ_cons, List.drop_zero, List.reverse_cons, List.reverse_nil, List.nil_append, List.cons_append, List.getD_cons_succ, List.getD_cons_zero, List.getD_nil, List.length_cons, List.length_nil, List.map_cons, List.map_nil, List.sum_cons, List.sum_nil, Nat.reduceAdd, Nat.reduceLeDiff, Value.category, Option.toList, true_or, or_true, z_ua, ↓reduceIte, Nat.reduceEqDiff, eq_self, not_true_eq_false, not_false_eq_true, false_implies, true_implies, Classical.not_not, Nat.le_refl, Nat.zero_le, q1, r1, r2, r3, e1, v1', nI_1]
      try dsimp only
      refine c33_59 hL hL2 hj hd huc hus hN12 hS1 hS2 hmk hsz hcl hQ k (s + 1) _ _ (by omega) (fun q a b c => by rw [z_u_ne b, g1 q a c]; exact h1 q a b c) (fun k a => by rw [z_u_ne r11]; exact g2 k a) (by rw [z_u_ne r11]; exact g3) (by rw [z_u_ne r13]; exact g4) (fun t ht => ?_)
      rw [z_u_at]
      by_cases e : t = s
      · rw [if_pos e, e]; exact g5
      · rw [if_neg e, g1 c3 r8 r10]; exact h5 t (by omega)
    refine zW_ok hj B33_59 59 _ _ _ _ _ b33_59 ?_
    simp only [B33_59, zW, z_wp1, z_ld, z_f0, z_f1, z_f2, z_f3, List.getElem?_cons_zero, List.getElem?_cons_succ, true_and, and_true, Int32.reduceOfInt, z_i10, z_i01, Int32.reduceLT, Int32.reduceLE, Int32.reduceAdd, Int32.reduceSub, z_set, z_set2, z_kil, List.set_cons_zero, List.set_cons_succ, List.take_succ_cons, List.take_zero, List.drop_succ_cons, List.drop_zero, List.reverse_cons, List.reverse_nil, List.nil_append, List.cons_append, List.getD_cons_succ, List.getD_cons_zero, List.getD_nil, List.length_cons, List.length_nil, List.map_cons, List.map_nil, List.sum_cons, List.sum_nil, Nat.reduceAdd, Nat.reduceLeDiff, Value.category, Option.toList, true_or, or_true, z_ua, ↓reduceIte, Nat.reduceEqDiff, eq_self, not_true_eq_false, not_false_eq_true, false_implies, true_implies, Classical.not_not, Nat.le_refl, Nat.zero_le, q1, hsz']
    try dsimp only
    refine ⟨fun hc => absurd hc (nI_ge (by omega) (by omega)), fun _ => ?_⟩
    refine z_callD (c34 (I := I') q1 hL2 hN12 hmk' (show s < 2 ^ N by omega) hS2) (by omega) (by omega) (by omega) (Nat.le_of_ble_eq_true rfl) ?_
    try simp only [zW, z_wp1, z_ld, z_f0, z_f1, z_f2, z_f3, List.getElem?_cons_zero, List.getElem?_cons_succ, true_and, and_true, Int32.reduceOfInt, z_i10, z_i01, Int32.reduceLT, Int32.reduceLE, Int32.reduceAdd, Int32.reduceSub, z_set, z_set2, z_kil, List.set_cons_zero, List.set_cons_succ, List.take_succ_cons, List.take_zero, List.drop_succ_cons, List.drop_zero, List.reverse_cons, List.reverse_nil, List.nil_append, List.cons_append, List.getD_cons_succ, List.getD_cons_zero, List.getD_nil, List.length_cons, List.length_nil, List.map_cons, List.map_nil, List.sum_cons, List.sum_nil, Nat.reduceAdd, Nat.reduceLeDiff, Value.category, Option.toList, true_or, or_true, z_ua, ↓reduceIte, Nat.reduceEqDiff, eq_self, not_true_eq_false, not_false_eq_true, false_implies, true_implies, Classical.not_not, Nat.le_refl, Nat.zero_le, q1, q2, q3, q4, e1, v1, hc1, h3, r5, r6, r7, e2, v2, r12, r9, nI_1, x_B_kp hB, d1, q9]
    try dsimp only
    have np : ∀ h : ¬ (¬ cl (nI s) = nI s ∧ ∀ r ∈ m_rl nI cl s, m_kp (nI s) r), zV X 120 [some (.ref lp), some (.int (nI s)), some (.int (x_gb (I' c3) (nI s) N))] [] (n, K, L, I', J, G) uc us := fun h => fin I' _ (fun _ _ _ => rfl) h2 (by rw [m_rl, if_neg h]; exact h3) (by rw [m_rl, if_neg h]; exact h4) (x_B_no hB h)
    refine ⟨fun h => np (fun q => q.1 h), fun h => ⟨fun h' => np (fun q => h' q.2), fun h' => ?_⟩⟩
    refine fin _ _ (fun q a b => by rw [z_u_ne a, z_u_ne b]) (fun q a => by rw [z_u_at, if_neg a, z_u_ne r12]; exact h2 q a) ?_ ?_ (x_B_yes hB ⟨h, h'⟩)
    · rw [m_rl, if_pos ⟨h, h'⟩]; simp [z_u]
    · rw [m_rl, if_pos ⟨h, h'⟩, z_u_ne r9, List.map_append]
      exact m_lst_add h4 (by simp [z_u]) (fun t ht => by rw [z_u_at, if_neg (by simp at ht; omega)])
theorem c33o (hk3 : K lp = 3) (h : I lp 9 = I lp 5) : z_D l 1 33 [.ref lp] (n, K, L, I, J, G) none (n, K, L, I, J, G) := by
  refine z_ctr (by decide) (by decide +kernel) (Nat.le_of_ble_eq_true rfl) (by decide +kernel) (fun X hl hj hd hm hs hsc hQ => ?_)
  show zV X 0 [some (.ref lp), none, none] [] _ 0 0
  refine zW_ok hj B33_0 0 _ _ _ _ _ b33_0 ?_
  simp only [B33_0, zW, z_wp1, z_ld, z_f0, z_f1, z_f2, z_f3, List.getElem?_cons_zero, List.getElem?_cons_succ, true_and, and_true, Int32.reduceOfInt, z_i10, z_i01, Int32.reduceLT, Int32.reduceLE, Int32.reduceAdd, Int32.reduceSub, z_set, z_set2, z_kil, List.set_cons_zero, List.set_cons_succ, List.take_succ_cons, List.take_zero, List.drop_succ_cons, List.drop_zero, List.reverse_cons, List.reverse_nil, List.nil_append, List.cons_append, List.getD_cons_succ, List.getD_cons_zero, List.getD_nil, List.length_cons, List.length_nil, List.map_cons, List.map_nil, List.sum_cons, List.sum_nil, Nat.reduceAdd, Nat.reduceLeDiff, Value.category, Option.toList, true_or, or_true, z_ua, ↓reduceIte, Nat.reduceEqDiff, eq_self, not_true_eq_false, not_false_eq_true, false_implies, true_implies, Classical.not_not, Nat.le_refl, Nat.zero_le, hk3, h]
  try dsimp only
  exact hQ _ _ ⟨rfl, rfl⟩
theorem c33a (hL : XL K L G lp c1 c2 S) (hL2 : XL2 K L G lp c1 c3 c4 S2) (hne : ¬ I lp 9 = I lp 5) (hN12 : N ≤ 12) (hS1 : 2 ^ N ≤ S) (hS2 : 2 ^ N ≤ S2) (hmk : I lp 0 = nI N) (hsz : I lp 1 = nI (2 ^ N)) (hcl : ∀ s, s < 2 ^ N → I c1 s = cl (nI s)) : z_Ctr l 1 33 [.ref lp] (n, K, L, I, J, G) 0 0 (fun r h' => r = none ∧ ∃ I', h' = (n, K, L, I', J, G) ∧ (∀ q, q ≠ lp → q ≠ c3 → q ≠ c4 → I' q = I q) ∧ (∀ k, k ≠ 8 → k ≠ 9 → I' lp k = I lp k) ∧ I' lp 9 = I lp 5 ∧ I' lp 8 = nI (m_rl nI cl (2 ^ N)).length ∧ m_lst (I' c4) ((m_rl nI cl (2 ^ N)).map Prod.fst)) := by
  obtain ⟨q1, q2, q3, q4, q5, q6, q7, q8, q9, q10, q11, q12, q13, q14⟩ := id hL
  obtain ⟨r1, r2, r3, r4, r5, r6, r7, r8, r9, r10, r11, r12, r13, r14, r15⟩ := id hL2
  have hp := z_pow hN12
  have hle2 : nI (2 ^ N) ≤ Int32.ofNat S2 := nI_le hS2 r4
  refine z_ctr (by decide) (by decide +kernel) (Nat.le_of_ble_eq_true rfl) (by decide +kernel) (fun X hl hj hd hm hs hsc hQ => ?_)
  show zV X 0 [some (.ref lp), none, none] [] _ 0 0
  refine zW_ok hj B33_0 0 _ _ _ _ _ b33_0 ?_
  simp only [B33_0, zW, z_wp1, z_ld, z_f0, z_f1, z_f2, z_f3, List.getElem?_cons_zero, List.getElem?_cons_succ, true_and, and_true, Int32.reduceOfInt, z_i10, z_i01, Int32.reduceLT, Int32.reduceLE, Int32.reduceAdd, Int32.reduceSub, z_set, z_set2, z_kil, List.set_cons_zero, List.set_cons_succ, List.take_succ_cons, List.take_zero, List.drop_succ_cons, List.drop_zero, List.reverse_cons, List.reverse_nil, List.nil_append, List.cons_append, List.getD_cons_succ, List.getD_cons_zero, List.getD_nil, List.length_cons, List.length_nil, List.map_cons, List.map_nil, List.sum_cons, List.sum_nil, Nat.reduceAdd, Nat.reduceLeDiff, Value.category, Option.toList, true_or, or_true, z_ua, ↓reduceIte, Nat.reduceEqDiff, eq_self, not_true_eq_false, not_false_eq_true, false_implies, true_implies, Classical.not_not, Nat.le_refl, Nat.zero_le, q1, hne]
  try dsimp only
  refine zW_ok hj B33_12 12 _ _ _ _ _ b33_12 ?_
  simp only [B33_12, zW, z_wp1, z_ld, z_f0, z_f1, z_f2, z_f3, List.getElem?_cons_zero, List.getElem?_cons_succ, true_and, and_true, Int32.reduceOfInt, z_i10, z_i01, Int32.reduceLT, Int32.reduceLE, Int32.reduceAdd, Int32.reduceSub, z_set, z_set2, z_kil, List.set_cons_zero, List.set_cons_succ, List.take_succ_cons, List.take_zero, List.drop_succ_cons, List.drop_zero, List.reverse_cons, List.reverse_nil, List.nil_append, List.cons_append, List.getD_cons_succ, List.getD_cons_zero, List.getD_nil, List.length_cons, List.length_nil, List.map_cons, List.map_nil, List.sum_cons, List.sum_nil, Nat.reduceAdd, Nat.reduceLeDiff, Value.category, Option.toList, true_or, or_true, z_ua, ↓reduceIte, Nat.reduceEqDiff, eq_self, not_true_eq_false, not_false_eq_true, false_implies, true_implies, Classical.not_not, Nat.le_refl, Nat.zero_le, q1, r5, r6, r7, hsz, hle2]
  try dsimp only
  refine zW_ok hj B33_57 57 _ _ _ _ _ b33_57 ?_
  simp only [B33_57, zW, z_wp1, z_ld, z_f0, z_f1, z_f2, z_f3, List.getElem?_cons_zero, List.getElem?_cons_succ, true_and, and_true, Int32.reduceOfInt, z_i10, z_i01, Int32.reduceLT, Int32.reduceLE, Int32.reduceAdd, Int32.reduceSub, z_set, z_set2, z_kil, List.set_cons_zero, List.set_cons_succ, List.take_succ_cons, List.take_zero, List.drop_succ_cons, List.drop_zero, List.reverse_cons, List.reverse_nil, List.nil_append, List.cons_append, List.getD_cons_succ, List.getD_cons_zero, List.getD_nil, List.length_cons, List.length_nil, List.map_cons, List.map_nil, List.sum_cons, List.sum_nil, Nat.reduceAdd, Nat.reduceLeDiff, Value.category, Option.toList, true_or, or_true, z_ua, ↓reduceIte, Nat.reduceEqDiff, eq_self, not_true_eq_false, not_false_eq_true, false_implies, true_implies, Classical.not_not, Nat.le_refl, Nat.zero_le]
  try dsimp only
  refine c33_59 (I := z_u (z_u I lp 9 (I lp 5)) lp 8 0) (cl := cl) hL hL2 hj hd (by omega) (by omega) hN12 hS1 hS2 (by simp [z_u]; exact hmk) (by simp [z_u]; exact hsz) (fun s hs => by rw [z_u_ne q9, z_u_ne q9]; exact hcl s hs) (fun I' a1 a2 a3 a4 => ?_) (2 ^ N) 0 _ none (by omega) (fun _ _ _ _ => rfl) (fun _ _ => rfl) (by simp [z_u, m_rl, nI_0]) (fun t x h => by simp [m_rl] at h) (fun t ht => by omega)
  refine hQ _ _ ⟨rfl, I', rfl, fun q a b c => ?_, fun k a b => ?_, ?_, a3, a4⟩
  · rw [a1 q a b c, z_u_ne a, z_u_ne a]
  · rw [a2 k a]; simp [z_u, a, b]
  · rw [a2 9 (by omega)]; simp [z_u]
theorem c33b (hL : XL K L G lp c1 c2 S) (hL2 : XL2 K L G lp c1 c3 c4 S2) (hne : ¬ I lp 9 = I lp 5) (hN12 : N ≤ 12) (hS1 : 2 ^ N ≤ S) (hS2 : ¬ 2 ^ N ≤ S2) (hmk : I lp 0 = nI N) (hsz : I lp 1 = nI (2 ^ N)) (hcl : ∀ s, s < 2 ^ N → I c1 s = cl (nI s)) (hlpn : lp < n) (hc1n : c1 < n) (hc2n : c2 < n) : z_Ctr l 1 33 [.ref lp] (n, K, L, I, J, G) 2 (2 * 2 ^ N) (fun r h' => r = none ∧ ∃ K' L' I' J' G', h' = (n + 2, K', L', I', J', G') ∧ zGr n K L J G K' L' J' G' lp 7 6 ∧ XL K' L' G' lp c1 c2 S ∧ XL2 K' L' G' lp c1 (n + 1) n (2 ^ N) ∧ (∀ q, q < n → q ≠ lp → I' q = I q) ∧ (∀ k, k ≠ 8 → k ≠ 9 → I' lp k = I lp k) ∧ I' lp 9 = I lp 5 ∧ I' lp 8 = nI (m_rl nI cl (2 ^ N)).length ∧ m_lst (I' n) ((m_rl nI cl (2 ^ N)).map Prod.fst)) := by
  obtain ⟨q1, q2, q3, q4, q5, q6, q7, q8, q9, q10, q11, q12, q13, q14⟩ := id hL
  obtain ⟨r1, r2, r3, r4, r5, r6, r7, r8, r9, r10, r11, r12, r13, r14, r15⟩ := id hL2
  have hp := z_pow hN12
  have hle2 : ¬ nI (2 ^ N) ≤ Int32.ofNat S2 := fun h => hS2 ((nI_leI (by omega) r4).mp h)
  have e1 : (nI (2 ^ N)).toNatClampNeg = 2 ^ N := nI_clamp (by omega)
  have e2 : ¬ nI (2 ^ N) < 0 := nI_pos (by omega)
  have kn : ∀ {α : Type} (f : Nat → α) (x : α), z_w f n x lp = f lp := fun f x => z_w_ne (by omega)
  have kn1 : ∀ {α : Type} (f : Nat → α) (x : α), z_w f (n + 1) x lp = f lp := fun f x => z_w_ne (by omega)
  refine z_ctr (by decide) (by decide +kernel) (Nat.le_of_ble_eq_true rfl) (by decide +kernel) (fun X hl hj hd hm hs hsc hQ => ?_)
  show zV X 0 [some (.ref lp), none, none] [] _ 0 0
  refine zW_ok hj B33_0 0 _ _ _ _ _ b33_0 ?_
  simp only [B33_0, zW, z_wp1, z_ld, z_f0, z_f1, z_f2, z_f3, List.getElem?_cons_zero, List.getElem?_cons_succ, true_and, and_true, Int32.reduceOfInt, z_i10, z_i01, Int32.reduceLT, Int32.reduceLE, Int32.reduceAdd, Int32.reduceSub, z_set, z_set2, z_kil, List.set_cons_zero, List.set_cons_succ, List.take_succ_cons, List.take_zero, List.drop_succ_cons, List.drop_zero, List.reverse_cons, List.reverse_nil, List.nil_append, List.cons_append, List.getD_cons_succ, List.getD_cons_zero, List.getD_nil, List.length_cons, List.length_nil, List.map_cons, List.map_nil, List.sum_cons, List.sum_nil, Nat.reduceAdd, Nat.reduceLeDiff, Value.category, Option.toList, true_or, or_true, z_ua, ↓reduceIte, Nat.reduceEqDiff, eq_self, not_true_eq_false, not_false_eq_true, false_implies, true_implies, Classical.not_not, Nat.le_refl, Nat.zero_le, q1, hne]
  try dsimp only
  refine zW_ok hj B33_12 12 _ _ _ _ _ b33_12 ?_
  simp only [B33_12, zW, z_wp1, z_ld, z_f0, z_f1, z_f2, z_f3, List.getElem?_cons_zero, List.getElem?_cons_succ, true_and, and_true, Int32.reduceOfInt, z_i10, z_i01, Int32.reduceLT, Int32.reduceLE, Int32.reduceAdd, Int32.reduceSub, z_set, z_set2, z_kil, List.set_cons_zero, List.set_cons_succ, List.take_succ_cons, List.take_zero, List.drop_succ_cons, List.drop_zero, List.reverse_cons, List.reverse_nil, List.nil_append, List.cons_append, List.getD_cons_succ, List.getD_cons_zero, List.getD_nil, List.length_cons, List.length_nil, List.map_cons, List.map_nil, List.sum_cons, List.sum_nil, Nat.reduceAdd, Nat.reduceLeDiff, Value.category, Option.toList, true_or, or_true, z_ua, ↓reduceIte, Nat.reduceEqDiff, eq_self, not_true_eq_false, not_false_eq_true, false_implies, true_implies, Classical.not_not, Nat.le_refl, Nat.zero_le, q1, r5, r6, r7, hsz, hle2, e1, e2, kn, kn1]
  try dsimp only
  refine ⟨by omega, by omega, by omega, by omega, by omega, by omega, ?_⟩
  obtain ⟨gr, ga, gb⟩ := zGr_2 (K := K) (L := L) (J := J) (G := G) (a := 7) (b := 6) (kd := 13) (len := 2 ^ N) hlpn (by omega)
  have hL' : XL (z_w (z_w K n 13) (n + 1) 13) (z_w (z_w L n (2 ^ N)) (n + 1) (2 ^ N)) (z_u (z_w (z_u (z_w G n (fun _ => .null)) lp 7 (.ref n)) (n + 1) (fun _ => .null)) lp 6 (.ref (n + 1))) lp c1 c2 S := by
    refine ⟨?_, ?_, ?_, ?_, by omega, ?_, ?_, ?_, by omega, by omega, by omega, by omega, by omega, by omega⟩
    · rw [(gr.1 lp (by omega)).1]; exact q1
    · rw [gr.2.2 2 (by omega) (by omega)]; exact q2
    · rw [(gr.1 c1 (by omega)).1]; exact q3
    · rw [(gr.1 c1 (by omega)).2.1]; exact q4
    · rw [gr.2.2 3 (by omega) (by omega)]; exact q6
    · rw [(gr.1 c2 (by omega)).1]; exact q7
    · rw [(gr.1 c2 (by omega)).2.1]; exact q8
  have hL2' : XL2 (z_w (z_w K n 13) (n + 1) 13) (z_w (z_w L n (2 ^ N)) (n + 1) (2 ^ N)) (z_u (z_w (z_u (z_w G n (fun _ => .null)) lp 7 (.ref n)) (n + 1) (fun _ => .null)) lp 6 (.ref (n + 1))) lp c1 (n + 1) n (2 ^ N) := by
    refine ⟨gb, ?_, ?_, by omega, ga, ?_, ?_, by omega, by omega, by omega, by omega, by omega, by omega, by omega, by omega⟩
    · rw [z_w_at]
    · rw [z_w_at]
    · rw [z_w_ne (by omega), z_w_at]
    · rw [z_w_ne (by omega), z_w_at]
  have eI : ∀ q, q < n → ∀ f : Nat → Nat → Int32, z_w (z_w f n (fun _ => 0)) (n + 1) (fun _ => 0) q = f q := fun q hq f => by rw [z_w_ne (by omega), z_w_ne (by omega)]
  refine zW_ok hj B33_57 57 _ _ _ _ _ b33_57 ?_
  simp only [B33_57, zW, z_wp1, z_ld, z_f0, z_f1, z_f2, z_f3, List.getElem?_cons_zero, List.getElem?_cons_succ, true_and, and_true, Int32.reduceOfInt, z_i10, z_i01, Int32.reduceLT, Int32.reduceLE, Int32.reduceAdd, Int32.reduceSub, z_set, z_set2, z_kil, List.set_cons_zero, List.set_cons_succ, List.take_succ_cons, List.take_zero, List.drop_succ_cons, List.drop_zero, List.reverse_cons, List.reverse_nil, List.nil_append, List.cons_append, List.getD_cons_succ, List.getD_cons_zero, List.getD_nil, List.length_cons, List.length_nil, List.map_cons, List.map_nil, List.sum_cons, List.sum_nil, Nat.reduceAdd, Nat.reduceLeDiff, Value.category, Option.toList, true_or, or_true, z_ua, ↓reduceIte, Nat.reduceEqDiff, eq_self, not_true_eq_false, not_false_eq_true, false_implies, true_implies, Classical.not_not, Nat.le_refl, Nat.zero_le]
  try dsimp only
  refine c33_59 (I := z_w (z_w (z_u (z_u I lp 9 (I lp 5)) lp 8 0) n (fun _ => 0)) (n + 1) (fun _ => 0)) (cl := cl) hL' hL2' hj hd (by omega) (by omega) hN12 hS1 (Nat.le_refl _) (by rw [eI lp hlpn]; simp [z_u]; exact hmk) (by rw [eI lp hlpn]; simp [z_u]; exact hsz) (fun s hs => by rw [eI c1 hc1n, z_u_ne q9, z_u_ne q9]; exact hcl s hs) (fun I' a1 a2 a3 a4 => ?_) (2 ^ N) 0 (z_w (z_w (z_u (z_u I lp 9 (I lp 5)) lp 8 0) n (fun _ => 0)) (n + 1) (fun _ => 0)) none (by omega) (fun _ _ _ _ => rfl) (fun _ _ => rfl) (by rw [eI lp hlpn]; simp [z_u, m_rl, nI_0]) (fun t x h => by simp [m_rl] at h) (fun t ht => by omega)
  refine hQ _ _ ⟨rfl, _, _, I', _, _, rfl, gr, hL', hL2', fun q b a => ?_, fun k a b => ?_, ?_, a3, a4⟩
  · rw [a1 q a (by omega) (by omega), eI q b, z_u_ne a, z_u_ne a]
  · rw [a2 k a, eI lp hlpn]; simp [z_u, a, b]
  · rw [a2 9 (by omega), eI lp hlpn]; simp [z_u]
end LAT5
