/-! The class: closures made fresh -/
theorem zb_shl (s : Int32) (k : Nat) : zb (s <<< ((1 : Int32) &&& 31)) k = (decide (k < 32) && (decide (0 < k) && zb s (k - 1))) := by
  have e : ((1 : Int32) &&& 31).toBitVec.smod 32 = 1 := by decide
  rw [zb, Int32.toBitVec_shiftLeft, e, BitVec.shiftLeft_eq', BitVec.getLsbD_shiftLeft]
  by_cases h0 : k = 0
  · subst h0; simp
  · have : ¬ k < 1 := by omega
    have h1 : 0 < k := by omega
    simp [h0, h1, zb]
theorem zb_bit1 (s : Int32) {i : Nat} (hi : i < 32) (k : Nat) : zb (s >>> (nI i &&& 31) &&& 1) k = (decide (k = 0) && zb s i) := by
  rw [zb_get s hi]
  by_cases h : zb s i = true
  · rw [if_pos h, h]
    have := zb_sh1 (i := 0) (by omega) k
    simp
    exact this
  · rw [if_neg h, zb_0]
    simp [h]
theorem x_bw_bits (s : Int32) (k : Nat) : ∀ N, N ≤ 32 → zb (x_bw s N) k = (decide (k < N) && zb s (N - 1 - k))
  | 0, _ => by simp [x_bw, zb_0]
  | N + 1, h => by
    have ih := fun k => x_bw_bits s k N (by omega)
    rw [x_bw, zb_or, zb_shl, zb_bit1 s (by omega), x_bw_bits s (k - 1) N (by omega)]
    by_cases h0 : k = 0
    · subst h0; simp
    · by_cases h1 : k < N + 1
      · have e : N - 1 - (k - 1) = N + 1 - 1 - k := by omega
        have h2 : k - 1 < N := by omega
        have h3 : 0 < k := by omega
        have h4 : k < 32 := by omega
        simp [h0, h1, h2, h3, h4]
        congr 1
      · have h2 : ¬ k - 1 < N := by omega
        simp [h0, h1, h2]
theorem x_bw_rng {s : Int32} {N b : Nat} (hN : N ≤ 16) (hb : N ≤ b) : zb (x_bw s N) b = false := by
  rw [x_bw_bits s b N (by omega)]
  simp
  omega
section LAT3
variable {l : Launch} {n : Nat} {K L : Nat → Nat} {I : Nat → Nat → Int32} {J : Nat → Nat → Int64} {G : Nat → Nat → Value} {lp c1 c2 S N F cd uc us : Nat}
abbrev x_rw (I : Nat → Nat → Int32) (mode : Int32) (N f : Nat) : Int32 := x_bw (x_row (I 16) (I 17) mode f) N
abbrev x_lc (I : Nat → Nat → Int32) (mode : Int32) (N F : Nat) (s : Int32) : Int32 := m_clo (x_rw I mode N) s (nI (2 ^ N) - 1) F
theorem c30_72 {X : zX} (hL : XL K L G lp c1 c2 S) (hj : X.2.1 = 30) (hN12 : N ≤ 12) (hS2 : 2 ^ N ≤ S) (hsz : I lp 1 = nI (2 ^ N)) {mode : Int32} (kk : ∀ I', (∀ q, q ≠ c1 → I' q = I q) → (∀ s, s < 2 ^ N → I' c1 s = nI (2 ^ N) - 1) → zV X 98 [some (.ref lp), some (.ref 10), some (.int mode), some (.int (nI (2 ^ N))), none] [] (n, K, L, I', J, G) uc us) : ∀ (k s : Nat) (I' : Nat → Nat → Int32), s + k = 2 ^ N → (∀ q, q ≠ c1 → I' q = I q) → (∀ t, t < s → I' c1 t = nI (2 ^ N) - 1) → zV X 72 [some (.ref lp), some (.ref 10), some (.int mode), some (.int (nI s)), none] [] (n, K, L, I', J, G) uc us
  | 0, s, I', hk, ho, h1 => by
    obtain ⟨q1, q2, q3, q4, q5, q6, q7, q8, q9, q10, q11, q12, q13, q14⟩ := hL
    have hp := z_pow hN12
    have e : s = 2 ^ N := by omega
    subst e
    have hsz' : I' lp 1 = nI (2 ^ N) := by rw [ho lp q12]; exact hsz
    refine zW_ok hj B30_72 72 _ _ _ _ _ b30_72 ?_
    simp only [B30_72, zW, z_wp1, z_ld, z_f0, z_f1, z_f2, z_f3, List.getElem?_cons_zero, List.getElem?_cons_succ, true_and, and_true, Int32.reduceOfInt, z_i10, z_i01, Int32.reduceLT, Int32.reduceLE, Int32.reduceAdd, Int32.reduceSub, z_set, z_set2, z_kil, List.set_cons_zero, List.set_cons_succ, List.take_succ_cons, List.take_zero, List.drop_succ_cons, List.drop_zero, List.reverse_cons, List.reverse_nil, List.nil_append, List.cons_append, List.getD_cons_succ, List.getD_cons_zero, List.getD_nil, List.length_cons, List.length_nil, List.map_cons, List.map_nil, List.sum_cons, List.sum_nil, Nat.reduceAdd, Nat.reduceLeDiff, Value.category, Option.toList, true_or, or_true, z_ua, ↓reduceIte, Nat.reduceEqDiff, eq_self, not_true_eq_false, not_false_eq_true, false_implies, true_implies, Classical.not_not, Nat.le_refl, Nat.zero_le, q1, hsz']
    try dsimp only
    refine ⟨fun _ => kk I' ho h1, fun hc => absurd (nI_le (Nat.le_refl _) (by omega)) hc⟩
  | k + 1, s, I', hk, ho, h1 => by
    obtain ⟨q1, q2, q3, q4, q5, q6, q7, q8, q9, q10, q11, q12, q13, q14⟩ := id hL
    have hp := z_pow hN12
    have hsz' : I' lp 1 = nI (2 ^ N) := by rw [ho lp q12]; exact hsz
    have e1 : (nI s).toNatClampNeg = s := nI_clamp (by omega)
    have v1 : vp_in (nI s) S := vp_in_nI (by omega) q5
    refine zW_ok hj B30_72 72 _ _ _ _ _ b30_72 ?_
    simp only [B30_72, zW, z_wp1, z_ld, z_f0, z_f1, z_f2, z_f3, List.getElem?_cons_zero, List.getElem?_cons_succ, true_and, and_true, Int32.reduceOfInt, z_i10, z_i01, Int32.reduceLT, Int32.reduceLE, Int32.reduceAdd, Int32.reduceSub, z_set, z_set2, z_kil, List.set_cons_zero, List.set_cons_succ, List.take_succ_cons, List.take_zero, List.drop_succ_cons, List.drop_zero, List.reverse_cons, List.reverse_nil, List.nil_append, List.cons_append, List.getD_cons_succ, List.getD_cons_zero, List.getD_nil, List.length_cons, List.length_nil, List.map_cons, List.map_nil, List.sum_cons, List.sum_nil, Nat.reduceAdd, Nat.reduceLeDiff, Value.category, Option.toList, true_or, or_true, z_ua, ↓reduceIte, Nat.reduceEqDiff, eq_self, not_true_eq_false, not_false_eq_true, false_implies, true_implies, Classical.not_not, Nat.le_refl, Nat.zero_le, q1, hsz', q2, q3, q4, e1, v1, nI_1]
    try dsimp only
    refine ⟨fun hc => absurd hc (nI_ge (by omega) (by omega)), fun _ => ?_⟩
    refine c30_72 hL hj hN12 hS2 hsz kk k (s + 1) _ (by omega) (fun q hq => by rw [z_u_ne hq]; exact ho q hq) (fun t ht => ?_)
    rw [z_u_at]
    by_cases e : t = s
    · rw [if_pos e]
    · rw [if_neg e]; exact h1 t (by omega)
theorem c30_100 {X : zX} (hS : SS K L G) (hL : XL K L G lp c1 c2 S) (hj : X.2.1 = 30) (hd : X.2.2.1 = 1) (huc : uc ≤ X.2.2.2.1) (hus : us ≤ X.2.2.2.2.1) (hN12 : N ≤ 12) (hS2 : 2 ^ N ≤ S) (hmk : I lp 0 = nI N) (hF : I 10 0 = nI F) (hF16 : F ≤ 16) (h10 : c1 ≠ 10 ∧ c1 ≠ 16 ∧ c1 ≠ 17) {mode : Int32} (kk : ∀ I' x, (∀ q, q ≠ c1 → I' q = I q) → (∀ s, s < 2 ^ N → ((∃ f, f < F ∧ x_rw I mode N f = nI s) → I' c1 s = nI s) ∧ (¬ (∃ f, f < F ∧ x_rw I mode N f = nI s) → I' c1 s = nI (2 ^ N) - 1)) → zV X 138 [some (.ref lp), some (.ref 10), some (.int mode), some (.int (nI F)), x] [] (n, K, L, I', J, G) uc us) : ∀ (k i : Nat) (I' : Nat → Nat → Int32) (x : Option Value), i + k = F → (∀ q, q ≠ c1 → I' q = I q) → (∀ s, s < 2 ^ N → ((∃ f, f < i ∧ x_rw I mode N f = nI s) → I' c1 s = nI s) ∧ (¬ (∃ f, f < i ∧ x_rw I mode N f = nI s) → I' c1 s = nI (2 ^ N) - 1)) → zV X 100 [some (.ref lp), some (.ref 10), some (.int mode), some (.int (nI i)), x] [] (n, K, L, I', J, G) uc us
  | 0, i, I', x, hk, ho, h1 => by
    have e : i = F := by omega
    subst e
    have hF' : I' 10 0 = nI i := by rw [ho 10 h10.1.symm]; exact hF
    refine zW_ok hj B30_100 100 _ _ _ _ _ b30_100 ?_
    simp only [B30_100, zW, z_wp1, z_ld, z_f0, z_f1, z_f2, z_f3, List.getElem?_cons_zero, List.getElem?_cons_succ, true_and, and_true, Int32.reduceOfInt, z_i10, z_i01, Int32.reduceLT, Int32.reduceLE, Int32.reduceAdd, Int32.reduceSub, z_set, z_set2, z_kil, List.set_cons_zero, List.set_cons_succ, List.take_succ_cons, List.take_zero, List.drop_succ_cons, List.drop_zero, List.reverse_cons, List.reverse_nil, List.nil_append, List.cons_append, List.getD_cons_succ, List.getD_cons_zero, List.getD_nil, List.length_cons, List.length_nil, List.map_cons, List.map_nil, List.sum_cons, List.sum_nil, Nat.reduceAdd, Nat.reduceLeDiff, Value.category, Option.toList, true_or, or_true, z_ua, ↓reduceIte, Nat.reduceEqDiff, eq_self, not_true_eq_false, not_false_eq_true, false_implies, true_implies, Classical.not_not, Nat.le_refl, Nat.zero_le, sK10 hS, hF']
    try dsimp only
    refine ⟨fun _ => kk I' x ho h1, fun hc => absurd (nI_le (Nat.le_refl _) (by omega)) hc⟩
  | k + 1, i, I', x, hk, ho, h1 => by
    obtain ⟨q1, q2, q3, q4, q5, q6, q7, q8, q9, q10, q11, q12, q13, q14⟩ := id hL
    have hp := z_pow hN12
    have hF' : I' 10 0 = nI F := by rw [ho 10 h10.1.symm]; exact hF
    have hmk' : I' lp 0 = nI N := by rw [ho lp q12]; exact hmk
    have e16 : I' 16 = I 16 := ho 16 h10.2.1.symm
    have e17 : I' 17 = I 17 := ho 17 h10.2.2.symm
    obtain ⟨t, ht, et⟩ := zb_toN (s := x_rw I mode N i) (N := N) (by omega) (fun b hb => x_bw_rng (by omega) hb)
    have e2 : (nI t).toNatClampNeg = t := nI_clamp (by omega)
    have v2 : vp_in (nI t) S := vp_in_nI (by omega) q5
    refine zW_ok hj B30_100 100 _ _ _ _ _ b30_100 ?_
    simp only [B30_100, zW, z_wp1, z_ld, z_f0, z_f1, z_f2, z_f3, List.getElem?_cons_zero, List.getElem?_cons_succ, true_and, and_true, Int32.reduceOfInt, z_i10, z_i01, Int32.reduceLT, Int32.reduceLE, Int32.reduceAdd, Int32.reduceSub, z_set, z_set2, z_kil, List.set_cons_zero, List.set_cons_succ, List.take_succ_cons, List.take_zero, List.drop_succ_cons, List.drop_zero, List.reverse_cons, List.reverse_nil, List.nil_append, List.cons_append, List.getD_cons_succ, List.getD_cons_zero, List.getD_nil, List.length_cons, List.length_nil, List.map_cons, List.map_nil, List.sum_cons, List.sum_nil, Nat.reduceAdd, Nat.reduceLeDiff, Value.category, Option.toList, true_or, or_true, z_ua, ↓reduceIte, Nat.reduceEqDiff, eq_self, not_true_eq_false, not_false_eq_true, false_implies, true_implies, Classical.not_not, Nat.le_refl, Nat.zero_le, sK10 hS, hF']
    try dsimp only
    refine ⟨fun hc => absurd hc (nI_ge (by omega) (by omega)), fun _ => ?_⟩
    refine z_callD (c98 hS (f := i) (by omega) mode) (by omega) (by omega) (by omega) (Nat.le_of_ble_eq_true rfl) ?_
    try simp only [zW, z_wp1, z_ld, z_f0, z_f1, z_f2, z_f3, List.getElem?_cons_zero, List.getElem?_cons_succ, true_and, and_true, Int32.reduceOfInt, z_i10, z_i01, Int32.reduceLT, Int32.reduceLE, Int32.reduceAdd, Int32.reduceSub, z_set, z_set2, z_kil, List.set_cons_zero, List.set_cons_succ, List.take_succ_cons, List.take_zero, List.drop_succ_cons, List.drop_zero, List.reverse_cons, List.reverse_nil, List.nil_append, List.cons_append, List.getD_cons_succ, List.getD_cons_zero, List.getD_nil, List.length_cons, List.length_nil, List.map_cons, List.map_nil, List.sum_cons, List.sum_nil, Nat.reduceAdd, Nat.reduceLeDiff, Value.category, Option.toList, true_or, or_true, z_ua, ↓reduceIte, Nat.reduceEqDiff, eq_self, not_true_eq_false, not_false_eq_true, false_implies, true_implies, Classical.not_not, Nat.le_refl, Nat.zero_le, q1, hmk', e16, e17]
    try dsimp only
    refine z_callD (c157 (N := N) (by omega) (x_row (I 16) (I 17) mode i)) (by omega) (by omega) (by omega) (Nat.le_of_ble_eq_true rfl) ?_
    try simp only [zW, z_wp1, z_ld, z_f0, z_f1, z_f2, z_f3, List.getElem?_cons_zero, List.getElem?_cons_succ, true_and, and_true, Int32.reduceOfInt, z_i10, z_i01, Int32.reduceLT, Int32.reduceLE, Int32.reduceAdd, Int32.reduceSub, z_set, z_set2, z_kil, List.set_cons_zero, List.set_cons_succ, List.take_succ_cons, List.take_zero, List.drop_succ_cons, List.drop_zero, List.reverse_cons, List.reverse_nil, List.nil_append, List.cons_append, List.getD_cons_succ, List.getD_cons_zero, List.getD_nil, List.length_cons, List.length_nil, List.map_cons, List.map_nil, List.sum_cons, List.sum_nil, Nat.reduceAdd, Nat.reduceLeDiff, Value.category, Option.toList, true_or, or_true, z_ua, ↓reduceIte, Nat.reduceEqDiff, eq_self, not_true_eq_false, not_false_eq_true, false_implies, true_implies, Classical.not_not, Nat.le_refl, Nat.zero_le, q1, et, q2, q3, q4, e2, v2, nI_1]
    try dsimp only
    refine c30_100 hS hL hj hd huc hus hN12 hS2 hmk hF hF16 h10 kk k (i + 1) _ _ (by omega) (fun q hq => by rw [z_u_ne hq]; exact ho q hq) (fun s hs2 => ?_)
    rw [z_u_at]
    by_cases e : s = t
    · subst e
      rw [if_pos rfl]
      exact ⟨fun _ => rfl, fun h => absurd ⟨i, by omega, et⟩ h⟩
    · rw [if_neg e]
      have hne : ¬ x_rw I mode N i = nI s := fun q => e ((nI_eq (by omega) (by omega)).mp (q.symm.trans et))
      obtain ⟨a, b⟩ := h1 s hs2
      refine ⟨fun ⟨f, hf, ef⟩ => a ?_, fun h => b (fun ⟨f, hf, ef⟩ => h ⟨f, by omega, ef⟩)⟩
      by_cases e' : f = i
      · subst e'; exact absurd ef hne
      · exact ⟨f, by omega, ef⟩
/-- behind the allocation -/
theorem c30_70 {X : zX} (hS : SS K L G) (hL : XL K L G lp c1 c2 S) (hj : X.2.1 = 30) (hd : X.2.2.1 = 1) (huc : uc ≤ X.2.2.2.1) (hus : us ≤ X.2.2.2.2.1) (hN12 : N ≤ 12) (hS2 : 2 ^ N ≤ S) (hmk : I lp 0 = nI N) (hsz : I lp 1 = nI (2 ^ N)) (hF : I 10 0 = nI F) (hF16 : F ≤ 16) (h10 : c1 ≠ 10 ∧ c1 ≠ 16 ∧ c1 ≠ 17) {mode : Int32} (hQ : ∀ I', (∀ q, q ≠ c1 → q ≠ c2 → q ≠ lp → I' q = I q) → (∀ k, k ≠ 4 → I' lp k = I lp k) → (∀ s, s < 2 ^ N → I' c1 s = x_lc I mode N F (nI s)) → I' lp 4 = nI (m_cl nI (x_lc I mode N F) (2 ^ N)).length → m_lst (I' c2) (m_cl nI (x_lc I mode N F) (2 ^ N)) → X.2.2.2.2.2.2 none (n, K, L, I', J, G)) : zV X 70 [some (.ref lp), some (.ref 10), some (.int mode), none, none] [] (n, K, L, I, J, G) uc us := by
  obtain ⟨q1, q2, q3, q4, q5, q6, q7, q8, q9, q10, q11, q12, q13, q14⟩ := id hL
  have hp := z_pow hN12
  refine zW_ok hj B30_70 70 _ _ _ _ _ b30_70 ?_
  simp only [B30_70, zW, z_wp1, z_ld, z_f0, z_f1, z_f2, z_f3, List.getElem?_cons_zero, List.getElem?_cons_succ, true_and, and_true, Int32.reduceOfInt, z_i10, z_i01, Int32.reduceLT, Int32.reduceLE, Int32.reduceAdd, Int32.reduceSub, z_set, z_set2, z_kil, List.set_cons_zero, List.set_cons_succ, List.take_succ_cons, List.take_zero, List.drop_succ_cons, List.drop_zero, List.reverse_cons, List.reverse_nil, List.nil_append, List.cons_append, List.getD_cons_succ, List.getD_cons_zero, List.getD_nil, List.length_cons, List.length_nil, List.map_cons, List.map_nil, List.sum_cons, List.sum_nil, Nat.reduceAdd, Nat.reduceLeDiff, Value.category, Option.toList, true_or, or_true, z_ua, ↓reduceIte, Nat.reduceEqDiff, eq_self, not_true_eq_false, not_false_eq_true, false_implies, true_implies, Classical.not_not, Nat.le_refl, Nat.zero_le]
  try dsimp only
  refine c30_72 (I := I) hL hj hN12 hS2 hsz (fun I1 ho1 h1 => ?_) (2 ^ N) 0 I (by omega) (fun _ _ => rfl) (fun t ht => by omega)
  refine zW_ok hj B30_98 98 _ _ _ _ _ b30_98 ?_
  simp only [B30_98, zW, z_wp1, z_ld, z_f0, z_f1, z_f2, z_f3, List.getElem?_cons_zero, List.getElem?_cons_succ, true_and, and_true, Int32.reduceOfInt, z_i10, z_i01, Int32.reduceLT, Int32.reduceLE, Int32.reduceAdd, Int32.reduceSub, z_set, z_set2, z_kil, List.set_cons_zero, List.set_cons_succ, List.take_succ_cons, List.take_zero, List.drop_succ_cons, List.drop_zero, List.reverse_cons, List.reverse_nil, List.nil_append, List.cons_append, List.getD_cons_succ, List.getD_cons_zero, List.getD_nil, List.length_cons, List.length_nil, List.map_cons, List.map_nil, List.sum_cons, List.sum_nil, Nat.reduceAdd, Nat.reduceLeDiff, Value.category, Option.toList, true_or, or_true, z_ua, ↓reduceIte, Nat.reduceEqDiff, eq_self, not_true_eq_false, not_false_eq_true, false_implies, true_implies, Classical.not_not, Nat.le_refl, Nat.zero_le]
  try dsimp only
  have e16 : I1 16 = I 16 := ho1 16 h10.2.1.symm
  have e17 : I1 17 = I 17 := ho1 17 h10.2.2.symm
  have erw : x_rw I1 mode N = x_rw I mode N := by unfold x_rw; rw [e16, e17]
  refine c30_100 (I := I1) hS hL hj hd huc hus hN12 hS2 (by rw [ho1 lp q12]; exact hmk) (by rw [ho1 10 h10.1.symm]; exact hF) hF16 h10 (fun I2 x ho2 h2 => ?_) F 0 I1 none (by omega) (fun _ _ => rfl) (fun s hs => ⟨fun ⟨f, hf, _⟩ => by omega, fun _ => h1 s hs⟩)
  rw [erw] at h2
  have hsz2 : I2 lp 1 = nI (2 ^ N) := by rw [ho2 lp q12, ho1 lp q12]; exact hsz
  have hmk2 : I2 lp 0 = nI N := by rw [ho2 lp q12, ho1 lp q12]; exact hmk
  refine zW_ok hj B30_138 138 _ _ _ _ _ b30_138 ?_
  simp only [B30_138, zW, z_wp1, z_ld, z_f0, z_f1, z_f2, z_f3, List.getElem?_cons_zero, List.getElem?_cons_succ, true_and, and_true, Int32.reduceOfInt, z_i10, z_i01, Int32.reduceLT, Int32.reduceLE, Int32.reduceAdd, Int32.reduceSub, z_set, z_set2, z_kil, List.set_cons_zero, List.set_cons_succ, List.take_succ_cons, List.take_zero, List.drop_succ_cons, List.drop_zero, List.reverse_cons, List.reverse_nil, List.nil_append, List.cons_append, List.getD_cons_succ, List.getD_cons_zero, List.getD_nil, List.length_cons, List.length_nil, List.map_cons, List.map_nil, List.sum_cons, List.sum_nil, Nat.reduceAdd, Nat.reduceLeDiff, Value.category, Option.toList, true_or, or_true, z_ua, ↓reduceIte, Nat.reduceEqDiff, eq_self, not_true_eq_false, not_false_eq_true, false_implies, true_implies, Classical.not_not, Nat.le_refl, Nat.zero_le, q1]
  try dsimp only
  refine z_callQ (c31 (I := I2) (rw' := x_rw I mode N) (F := F) hL hN12 hS2 hsz2 hmk2 (fun s hs => x_P_0 (by omega) (fun f hf b hb => x_bw_rng (by omega) hb) (fun b hb => zb_of (by omega) hs hb) (h2 s hs).1 (h2 s hs).2)) (by omega) (by omega) (by omega) (Nat.le_of_ble_eq_true rfl) ?_
  rintro r h' ⟨rfl, I3, rfl, ho3, h3⟩
  simp only [zW, z_wp1, z_ld, z_f0, z_f1, z_f2, z_f3, List.getElem?_cons_zero, List.getElem?_cons_succ, true_and, and_true, Int32.reduceOfInt, z_i10, z_i01, Int32.reduceLT, Int32.reduceLE, Int32.reduceAdd, Int32.reduceSub, z_set, z_set2, z_kil, List.set_cons_zero, List.set_cons_succ, List.take_succ_cons, List.take_zero, List.drop_succ_cons, List.drop_zero, List.reverse_cons, List.reverse_nil, List.nil_append, List.cons_append, List.getD_cons_succ, List.getD_cons_zero, List.getD_nil, List.length_cons, List.length_nil, List.map_cons, List.map_nil, List.sum_cons, List.sum_nil, Nat.reduceAdd, Nat.reduceLeDiff, Value.category, Option.toList, true_or, or_true, z_ua, ↓reduceIte, Nat.reduceEqDiff, eq_self, not_true_eq_false, not_false_eq_true, false_implies, true_implies, Classical.not_not, Nat.le_refl, Nat.zero_le, q1]
  try dsimp only
  refine z_callQ (c32 (I := I3) (cl := x_lc I mode N F) hL hN12 hS2 (by rw [ho3 lp q12]; exact hsz2) h3) (by omega) (by omega) (by omega) (Nat.le_of_ble_eq_true rfl) ?_
  rintro r h' ⟨rfl, I4, rfl, ho4, ho4', h4, h5⟩
  simp only [zW, z_wp1, z_ld, z_f0, z_f1, z_f2, z_f3, List.getElem?_cons_zero, List.getElem?_cons_succ, true_and, and_true, Int32.reduceOfInt, z_i10, z_i01, Int32.reduceLT, Int32.reduceLE, Int32.reduceAdd, Int32.reduceSub, z_set, z_set2, z_kil, List.set_cons_zero, List.set_cons_succ, List.take_succ_cons, List.take_zero, List.drop_succ_cons, List.drop_zero, List.reverse_cons, List.reverse_nil, List.nil_append, List.cons_append, List.getD_cons_succ, List.getD_cons_zero, List.getD_nil, List.length_cons, List.length_nil, List.map_cons, List.map_nil, List.sum_cons, List.sum_nil, Nat.reduceAdd, Nat.reduceLeDiff, Value.category, Option.toList, true_or, or_true, z_ua, ↓reduceIte, Nat.reduceEqDiff, eq_self, not_true_eq_false, not_false_eq_true, false_implies, true_implies, Classical.not_not, Nat.le_refl, Nat.zero_le]
  try dsimp only
  refine hQ I4 (fun q a b c => ?_) (fun k a => ?_) (fun s hs => ?_) h4 h5
  · rw [ho4 q c b, ho3 q a, ho2 q a, ho1 q a]
  · rw [ho4' k a, ho3 lp q12, ho2 lp q12, ho1 lp q12]
  · rw [ho4 c1 q9 q11]; exact h3 s hs
end LAT3
