/-! The class: closures and rules made fresh, with their rows -/
theorem z_w_ne {α : Type} {f : Nat → α} {a q : Nat} {x : α} (h : q ≠ a) : z_w f a x q = f q := by simp [z_w, h]
theorem z_w_at {α : Type} (f : Nat → α) (a : Nat) (x : α) : z_w f a x a = x := by simp [z_w]
/-- new rows behind n, referred to by two slots of one object -/
def zGr (n : Nat) (K L : Nat → Nat) (J : Nat → Nat → Int64) (G : Nat → Nat → Value) (K' L' : Nat → Nat) (J' : Nat → Nat → Int64) (G' : Nat → Nat → Value) (lp a b : Nat) : Prop := (∀ q, q < n → K' q = K q ∧ L' q = L q ∧ J' q = J q) ∧ (∀ q, q < n → q ≠ lp → G' q = G q) ∧ ∀ k, k ≠ a → k ≠ b → G' lp k = G lp k
theorem z_sk103 : ∀ t ∈ z_sk, t.1 < 103 := by decide +kernel
theorem z_sl103 : ∀ t ∈ z_sl, t.1 < 103 := by decide +kernel
theorem z_sg103 : ∀ t ∈ z_sg, t.1 < 103 ∧ ¬ ((t.1 = 22 ∨ t.1 = 28) ∧ (t.2.1 = 2 ∨ t.2.1 = 3 ∨ t.2.1 = 6 ∨ t.2.1 = 7)) ∧ ¬ (t.1 = 38 ∧ t.2.1 = 9) ∧ ¬ (t.1 = 53 ∧ t.2.1 = 4) := by decide +kernel
theorem zGr.SS {n : Nat} {K L : Nat → Nat} {J : Nat → Nat → Int64} {G : Nat → Nat → Value} {K' L' : Nat → Nat} {J' : Nat → Nat → Int64} {G' : Nat → Nat → Value} {lp a b : Nat} (h : zGr n K L J G K' L' J' G' lp a b) (hn : 103 ≤ n) (hd : ((lp = 22 ∨ lp = 28) ∧ ((a = 2 ∧ b = 3) ∨ (a = 6 ∧ b = 7))) ∨ (lp = 38 ∧ a = 9 ∧ b = 9) ∨ (lp = 53 ∧ a = 4 ∧ b = 4)) (hS : SS K L G) : SS K' L' G' := by
  refine ⟨fun t ht => ?_, fun t ht => ?_, fun t ht => ?_⟩
  · rw [(h.1 t.1 (by have := z_sk103 t ht; omega)).1]; exact hS.1 t ht
  · rw [(h.1 t.1 (by have := z_sl103 t ht; omega)).2.1]; exact hS.2.1 t ht
  · obtain ⟨g1, g2, g3, g4⟩ := z_sg103 t ht
    by_cases e : t.1 = lp
    · rw [e, h.2.2 t.2.1 (by omega) (by omega), ← e]; exact hS.2.2 t ht
    · rw [h.2.1 t.1 (by omega) e]; exact hS.2.2 t ht
theorem zGr.XC {n : Nat} {K L : Nat → Nat} {J : Nat → Nat → Int64} {G : Nat → Nat → Value} {K' L' : Nat → Nat} {J' : Nat → Nat → Int64} {G' : Nat → Nat → Value} {lp a b cd : Nat} (h : zGr n K L J G K' L' J' G' lp a b) (hn : 103 ≤ n) (hd : lp = 22 ∨ lp = 28 ∨ lp = 38 ∨ lp = 53) (hC : XC G cd) : XC G' cd := ⟨hC.1, by rw [h.2.1 10 (by omega) (by omega)]; exact hC.2.1, by rw [h.2.1 60 (by omega) (by omega)]; exact hC.2.2⟩
theorem zGr_2 {n : Nat} {K L : Nat → Nat} {J : Nat → Nat → Int64} {G : Nat → Nat → Value} {lp a b kd len : Nat} (hlp : lp < n) (hab : a ≠ b) : zGr n K L J G (z_w (z_w K n kd) (n + 1) kd) (z_w (z_w L n len) (n + 1) len) (z_w (z_w J n (fun _ => 0)) (n + 1) (fun _ => 0)) (z_u (z_w (z_u (z_w G n (fun _ => .null)) lp a (.ref n)) (n + 1) (fun _ => .null)) lp b (.ref (n + 1))) lp a b ∧ z_u (z_w (z_u (z_w G n (fun _ => .null)) lp a (.ref n)) (n + 1) (fun _ => .null)) lp b (.ref (n + 1)) lp a = .ref n ∧ z_u (z_w (z_u (z_w G n (fun _ => .null)) lp a (.ref n)) (n + 1) (fun _ => .null)) lp b (.ref (n + 1)) lp b = .ref (n + 1) := by
  refine ⟨⟨fun q hq => ?_, fun q hq hne => ?_, fun k h1 h2 => ?_⟩, ?_, ?_⟩
  · simp only [z_w_ne (show q ≠ n + 1 by omega), z_w_ne (show q ≠ n by omega)]
    exact ⟨trivial, trivial, trivial⟩
  · rw [z_u_ne hne, z_w_ne (by omega), z_u_ne hne, z_w_ne (by omega)]
  · rw [z_u_at, if_neg h2, z_w_ne (by omega), z_u_at, if_neg h1, z_w_ne (by omega)]
  · rw [z_u_at, if_neg hab, z_w_ne (by omega), z_u_at, if_pos rfl]
  · rw [z_u_at, if_pos rfl]
section LAT4
variable {l : Launch} {n : Nat} {K L : Nat → Nat} {I : Nat → Nat → Int32} {J : Nat → Nat → Int64} {G : Nat → Nat → Value} {lp c1 c2 c3 c4 S S2 N F cd : Nat}
theorem c30o (hS : SS K L G) (hk3 : K lp = 3) (h : I lp 5 = I 10 10) (mode : Int32) : z_D l 1 30 [.ref lp, .ref 10, .int mode] (n, K, L, I, J, G) none (n, K, L, I, J, G) := by
  refine z_ctr (by decide) (by decide +kernel) (Nat.le_of_ble_eq_true rfl) (by decide +kernel) (fun X hl hj hd hm hs hsc hQ => ?_)
  show zV X 0 [some (.ref lp), some (.ref 10), some (.int mode), none, none] [] _ 0 0
  refine zW_ok hj B30_0 0 _ _ _ _ _ b30_0 ?_
  simp only [B30_0, zW, z_wp1, z_ld, z_f0, z_f1, z_f2, z_f3, List.getElem?_cons_zero, List.getElem?_cons_succ, true_and, and_true, Int32.reduceOfInt, z_i10, z_i01, Int32.reduceLT, Int32.reduceLE, Int32.reduceAdd, Int32.reduceSub, z_set, z_set2, z_kil, List.set_cons_zero, List.set_cons_succ, List.take_succ_cons, List.take_zero, List.drop_succ_cons, List.drop_zero, List.reverse_cons, List.reverse_nil, List.nil_append, List.cons_append, List.getD_cons_succ, List.getD_cons_zero, List.getD_nil, List.length_cons, List.length_nil, List.map_cons, List.map_nil, List.sum_cons, List.sum_nil, Nat.reduceAdd, Nat.reduceLeDiff, Value.category, Option.toList, true_or, or_true, z_ua, ↓reduceIte, Nat.reduceEqDiff, eq_self, not_true_eq_false, not_false_eq_true, false_implies, true_implies, Classical.not_not, Nat.le_refl, Nat.zero_le, hk3, sK10 hS, h]
  try dsimp only
  exact hQ _ _ ⟨rfl, rfl⟩
/-- freshenClosures where the rows are long enough -/
theorem c30a (hS : SS K L G) (hC : XC G cd) (hL : XL K L G lp c1 c2 S) (hne : ¬ I lp 5 = I 10 10) (hN : I cd 3 = nI N) (hN12 : N ≤ 12) (hS2 : 2 ^ N ≤ S) (hF : I 10 0 = nI F) (hF16 : F ≤ 16) (h10 : c1 ≠ 10 ∧ c1 ≠ 16 ∧ c1 ≠ 17) (hlp : lp = 22 ∨ lp = 28) (mode : Int32) : z_Ctr l 1 30 [.ref lp, .ref 10, .int mode] (n, K, L, I, J, G) 0 0 (fun r h' => r = none ∧ ∃ I', h' = (n, K, L, I', J, G) ∧ (∀ q, q ≠ c1 → q ≠ c2 → q ≠ lp → I' q = I q) ∧ (∀ k, k ≠ 0 → k ≠ 1 → k ≠ 4 → k ≠ 5 → I' lp k = I lp k) ∧ I' lp 0 = nI N ∧ I' lp 1 = nI (2 ^ N) ∧ I' lp 5 = I 10 10 ∧ (∀ s, s < 2 ^ N → I' c1 s = x_lc I mode N F (nI s)) ∧ I' lp 4 = nI (m_cl nI (x_lc I mode N F) (2 ^ N)).length ∧ m_lst (I' c2) (m_cl nI (x_lc I mode N F) (2 ^ N))) := by
  obtain ⟨q1, q2, q3, q4, q5, q6, q7, q8, q9, q10, q11, q12, q13, q14⟩ := id hL
  have hp := z_pow hN12
  have c1' := hC.1
  have d1 : ¬ cd = lp := by omega
  have d2 : ¬ lp = 10 := by omega
  have d3 : ¬ (10 : Nat) = lp := by omega
  have hle : nI (2 ^ N) ≤ nI S := nI_le hS2 q5
  have hle2 : nI (2 ^ N) ≤ Int32.ofNat S := hle
  refine z_ctr (by decide) (by decide +kernel) (Nat.le_of_ble_eq_true rfl) (by decide +kernel) (fun X hl hj hd hm hs hsc hQ => ?_)
  show zV X 0 [some (.ref lp), some (.ref 10), some (.int mode), none, none] [] _ 0 0
  refine zW_ok hj B30_0 0 _ _ _ _ _ b30_0 ?_
  simp only [B30_0, zW, z_wp1, z_ld, z_f0, z_f1, z_f2, z_f3, List.getElem?_cons_zero, List.getElem?_cons_succ, true_and, and_true, Int32.reduceOfInt, z_i10, z_i01, Int32.reduceLT, Int32.reduceLE, Int32.reduceAdd, Int32.reduceSub, z_set, z_set2, z_kil, List.set_cons_zero, List.set_cons_succ, List.take_succ_cons, List.take_zero, List.drop_succ_cons, List.drop_zero, List.reverse_cons, List.reverse_nil, List.nil_append, List.cons_append, List.getD_cons_succ, List.getD_cons_zero, List.getD_nil, List.length_cons, List.length_nil, List.map_cons, List.map_nil, List.sum_cons, List.sum_nil, Nat.reduceAdd, Nat.reduceLeDiff, Value.category, Option.toList, true_or, or_true, z_ua, ↓reduceIte, Nat.reduceEqDiff, eq_self, not_true_eq_false, not_false_eq_true, false_implies, true_implies, Classical.not_not, Nat.le_refl, Nat.zero_le, q1, sK10 hS, hne]
  try dsimp only
  refine zW_ok hj B30_12 12 _ _ _ _ _ b30_12 ?_
  simp only [B30_12, zW, z_wp1, z_ld, z_f0, z_f1, z_f2, z_f3, List.getElem?_cons_zero, List.getElem?_cons_succ, true_and, and_true, Int32.reduceOfInt, z_i10, z_i01, Int32.reduceLT, Int32.reduceLE, Int32.reduceAdd, Int32.reduceSub, z_set, z_set2, z_kil, List.set_cons_zero, List.set_cons_succ, List.take_succ_cons, List.take_zero, List.drop_succ_cons, List.drop_zero, List.reverse_cons, List.reverse_nil, List.nil_append, List.cons_append, List.getD_cons_succ, List.getD_cons_zero, List.getD_nil, List.length_cons, List.length_nil, List.map_cons, List.map_nil, List.sum_cons, List.sum_nil, Nat.reduceAdd, Nat.reduceLeDiff, Value.category, Option.toList, true_or, or_true, z_ua, ↓reduceIte, Nat.reduceEqDiff, eq_self, not_true_eq_false, not_false_eq_true, false_implies, true_implies, Classical.not_not, Nat.le_refl, Nat.zero_le, q1, sK10 hS]
  try dsimp only
  refine z_callD (c90 (I := z_u I lp 5 (I 10 10)) hS hC) (by omega) (by omega) (by omega) (Nat.le_of_ble_eq_true rfl) ?_
  try simp only [zW, z_wp1, z_ld, z_f0, z_f1, z_f2, z_f3, List.getElem?_cons_zero, List.getElem?_cons_succ, true_and, and_true, Int32.reduceOfInt, z_i10, z_i01, Int32.reduceLT, Int32.reduceLE, Int32.reduceAdd, Int32.reduceSub, z_set, z_set2, z_kil, List.set_cons_zero, List.set_cons_succ, List.take_succ_cons, List.take_zero, List.drop_succ_cons, List.drop_zero, List.reverse_cons, List.reverse_nil, List.nil_append, List.cons_append, List.getD_cons_succ, List.getD_cons_zero, List.getD_nil, List.length_cons, List.length_nil, List.map_cons, List.map_nil, List.sum_cons, List.sum_nil, Nat.reduceAdd, Nat.reduceLeDiff, Value.category, Option.toList, true_or, or_true, z_ua, ↓reduceIte, Nat.reduceEqDiff, eq_self, not_true_eq_false, not_false_eq_true, false_implies, true_implies, Classical.not_not, Nat.le_refl, Nat.zero_le, q1, d1, hN, z_shl1 (show N < 17 by omega), q2, q3, q4, hle2]
  try dsimp only
  refine c30_70 (I := z_u (z_u (z_u I lp 5 (I 10 10)) lp 0 (nI N)) lp 1 (nI (2 ^ N))) (F := F) hS hL hj hd (by omega) (by omega) hN12 hS2 (by simp [z_u]) (by simp [z_u]) (by simp [z_u, d3]; exact hF) hF16 h10 (fun I' a1 a2 a3 a4 a5 => ?_)
  have erw : x_lc (z_u (z_u (z_u I lp 5 (I 10 10)) lp 0 (nI N)) lp 1 (nI (2 ^ N))) mode N F = x_lc I mode N F := by
    unfold x_lc x_rw
    rw [z_u_ne (show (16 : Nat) ≠ lp by omega), z_u_ne (show (16 : Nat) ≠ lp by omega), z_u_ne (show (16 : Nat) ≠ lp by omega), z_u_ne (show (17 : Nat) ≠ lp by omega), z_u_ne (show (17 : Nat) ≠ lp by omega), z_u_ne (show (17 : Nat) ≠ lp by omega)]
  rw [erw] at a3 a4 a5
  refine hQ _ _ ⟨rfl, I', rfl, fun q b1 b2 b3 => ?_, fun k b1 b2 b3 b4 => ?_, ?_, ?_, ?_, a3, a4, a5⟩
  · rw [a1 q b1 b2 b3, z_u_ne b3, z_u_ne b3, z_u_ne b3]
  · rw [a2 k b3]; simp [z_u, b1, b2, b4]
  · rw [a2 0 (by omega)]; simp [z_u]
  · rw [a2 1 (by omega)]; simp [z_u]
  · rw [a2 5 (by omega)]; simp [z_u]
/-- freshenClosures with new rows -/
theorem c30b (hS : SS K L G) (hC : XC G cd) (hL : XL K L G lp c1 c2 S) (hne : ¬ I lp 5 = I 10 10) (hN : I cd 3 = nI N) (hN12 : N ≤ 12) (hS2 : ¬ 2 ^ N ≤ S) (hF : I 10 0 = nI F) (hF16 : F ≤ 16) (hn : 103 ≤ n) (hlp : lp = 22 ∨ lp = 28) (mode : Int32) : z_Ctr l 1 30 [.ref lp, .ref 10, .int mode] (n, K, L, I, J, G) 2 (2 * 2 ^ N) (fun r h' => r = none ∧ ∃ K' L' I' J' G', h' = (n + 2, K', L', I', J', G') ∧ zGr n K L J G K' L' J' G' lp 2 3 ∧ XL K' L' G' lp n (n + 1) (2 ^ N) ∧ (∀ q, q < n → q ≠ lp → I' q = I q) ∧ (∀ k, k ≠ 0 → k ≠ 1 → k ≠ 4 → k ≠ 5 → I' lp k = I lp k) ∧ I' lp 0 = nI N ∧ I' lp 1 = nI (2 ^ N) ∧ I' lp 5 = I 10 10 ∧ (∀ s, s < 2 ^ N → I' n s = x_lc I mode N F (nI s)) ∧ I' lp 4 = nI (m_cl nI (x_lc I mode N F) (2 ^ N)).length ∧ m_lst (I' (n + 1)) (m_cl nI (x_lc I mode N F) (2 ^ N))) := by
  obtain ⟨q1, q2, q3, q4, q5, q6, q7, q8, q9, q10, q11, q12, q13, q14⟩ := id hL
  have hp := z_pow hN12
  have c1' := hC.1
  have d1 : ¬ cd = lp := by omega
  have d2 : ¬ lp = 10 := by omega
  have d3 : ¬ (10 : Nat) = lp := by omega
  have hle2 : ¬ nI (2 ^ N) ≤ Int32.ofNat S := fun h => hS2 ((nI_leI (by omega) q5).mp h)
  have e1 : (nI (2 ^ N)).toNatClampNeg = 2 ^ N := nI_clamp (by omega)
  have e2 : ¬ nI (2 ^ N) < 0 := nI_pos (by omega)
  have kn : ∀ {α : Type} (f : Nat → α) (x : α), z_w f n x lp = f lp := fun f x => z_w_ne (by omega)
  have kn1 : ∀ {α : Type} (f : Nat → α) (x : α), z_w f (n + 1) x lp = f lp := fun f x => z_w_ne (by omega)
  refine z_ctr (by decide) (by decide +kernel) (Nat.le_of_ble_eq_true rfl) (by decide +kernel) (fun X hl hj hd hm hs hsc hQ => ?_)
  show zV X 0 [some (.ref lp), some (.ref 10), some (.int mode), none, none] [] _ 0 0
  refine zW_ok hj B30_0 0 _ _ _ _ _ b30_0 ?_
  simp only [B30_0, zW, z_wp1, z_ld, z_f0, z_f1, z_f2, z_f3, List.getElem?_cons_zero, List.getElem?_cons_succ, true_and, and_true, Int32.reduceOfInt, z_i10, z_i01, Int32.reduceLT, Int32.reduceLE, Int32.reduceAdd, Int32.reduceSub, z_set, z_set2, z_kil, List.set_cons_zero, List.set_cons_succ, List.take_succ_cons, List.take_zero, List.drop_succ_cons, List.drop_zero, List.reverse_cons, List.reverse_nil, List.nil_append, List.cons_append, List.getD_cons_succ, List.getD_cons_zero, List.getD_nil, List.length_cons, List.length_nil, List.map_cons, List.map_nil, List.sum_cons, List.sum_nil, Nat.reduceAdd, Nat.reduceLeDiff, Value.category, Option.toList, true_or, or_true, z_ua, ↓reduceIte, Nat.reduceEqDiff, eq_self, not_true_eq_false, not_false_eq_true, false_implies, true_implies, Classical.not_not, Nat.le_refl, Nat.zero_le, q1, sK10 hS, hne]
  try dsimp only
  refine zW_ok hj B30_12 12 _ _ _ _ _ b30_12 ?_
  simp only [B30_12, zW, z_wp1, z_ld, z_f0, z_f1, z_f2, z_f3, List.getElem?_cons_zero, List.getElem?_cons_succ, true_and, and_true, Int32.reduceOfInt, z_i10, z_i01, Int32.reduceLT, Int32.reduceLE, Int32.reduceAdd, Int32.reduceSub, z_set, z_set2, z_kil, List.set_cons_zero, List.set_cons_succ, List.take_succ_cons, List.take_zero, List.drop_succ_cons, List.drop_zero, List.reverse_cons, List.reverse_nil, List.nil_append, List.cons_append, List.getD_cons_succ, List.getD_cons_zero, List.getD_nil, List.length_cons, List.length_nil, List.map_cons, List.map_nil, List.sum_cons, List.sum_nil, Nat.reduceAdd, Nat.reduceLeDiff, Value.category, Option.toList, true_or, or_true, z_ua, ↓reduceIte, Nat.reduceEqDiff, eq_self, not_true_eq_false, not_false_eq_true, false_implies, true_implies, Classical.not_not, Nat.le_refl, Nat.zero_le, q1, sK10 hS]
  try dsimp only
  refine z_callD (c90 (I := z_u I lp 5 (I 10 10)) hS hC) (by omega) (by omega) (by omega) (Nat.le_of_ble_eq_true rfl) ?_
  try simp only [zW, z_wp1, z_ld, z_f0, z_f1, z_f2, z_f3, List.getElem?_cons_zero, List.getElem?_cons_succ, true_and, and_true, Int32.reduceOfInt, z_i10, z_i01, Int32.reduceLT, Int32.reduceLE, Int32.reduceAdd, Int32.reduceSub, z_set, z_set2, z_kil, List.set_cons_zero, List.set_cons_succ, List.take_succ_cons, List.take_zero, List.drop_succ_cons, List.drop_zero, List.reverse_cons, List.reverse_nil, List.nil_append, List.cons_append, List.getD_cons_succ, List.getD_cons_zero, List.getD_nil, List.length_cons, List.length_nil, List.map_cons, List.map_nil, List.sum_cons, List.sum_nil, Nat.reduceAdd, Nat.reduceLeDiff, Value.category, Option.toList, true_or, or_true, z_ua, ↓reduceIte, Nat.reduceEqDiff, eq_self, not_true_eq_false, not_false_eq_true, false_implies, true_implies, Classical.not_not, Nat.le_refl, Nat.zero_le, q1, d1, hN, z_shl1 (show N < 17 by omega), q2, q3, q4, hle2, e1, e2, kn, kn1]
  try dsimp only
  refine ⟨by omega, by omega, by omega, by omega, by omega, by omega, ?_⟩
  obtain ⟨gr, ga, gb⟩ := zGr_2 (K := K) (L := L) (J := J) (G := G) (a := 2) (b := 3) (kd := 13) (len := 2 ^ N) (show lp < n by omega) (by omega)
  have hS' := gr.SS hn (Or.inl ⟨hlp, Or.inl ⟨rfl, rfl⟩⟩) hS
  have hL' : XL (z_w (z_w K n 13) (n + 1) 13) (z_w (z_w L n (2 ^ N)) (n + 1) (2 ^ N)) (z_u (z_w (z_u (z_w G n (fun _ => .null)) lp 2 (.ref n)) (n + 1) (fun _ => .null)) lp 3 (.ref (n + 1))) lp n (n + 1) (2 ^ N) := by
    refine ⟨?_, ga, ?_, ?_, by omega, gb, ?_, ?_, by omega, by omega, by omega, by omega, by omega, by omega⟩
    · rw [(gr.1 lp (by omega)).1]; exact q1
    · rw [z_w_ne (by omega), z_w_at]
    · rw [z_w_ne (by omega), z_w_at]
    · rw [z_w_at]
    · rw [z_w_at]
  have eI : ∀ q, q < n → ∀ f : Nat → Nat → Int32, z_w (z_w f n (fun _ => 0)) (n + 1) (fun _ => 0) q = f q := fun q hq f => by rw [z_w_ne (by omega), z_w_ne (by omega)]
  refine c30_70 (I := z_w (z_w (z_u (z_u (z_u I lp 5 (I 10 10)) lp 0 (nI N)) lp 1 (nI (2 ^ N))) n (fun _ => 0)) (n + 1) (fun _ => 0)) (F := F) hS' hL' hj hd (by omega) (by omega) hN12 (Nat.le_refl _) (by rw [eI lp (by omega)]; simp [z_u]) (by rw [eI lp (by omega)]; simp [z_u]) (by rw [eI 10 (by omega)]; simp [z_u, d3]; exact hF) hF16 ⟨by omega, by omega, by omega⟩ (fun I' a1 a2 a3 a4 a5 => ?_)
  have erw : x_lc (z_w (z_w (z_u (z_u (z_u I lp 5 (I 10 10)) lp 0 (nI N)) lp 1 (nI (2 ^ N))) n (fun _ => 0)) (n + 1) (fun _ => 0)) mode N F = x_lc I mode N F := by
    unfold x_lc x_rw
    rw [eI 16 (by omega), eI 17 (by omega)]
    rw [z_u_ne (show (16 : Nat) ≠ lp by omega), z_u_ne (show (16 : Nat) ≠ lp by omega), z_u_ne (show (16 : Nat) ≠ lp by omega), z_u_ne (show (17 : Nat) ≠ lp by omega), z_u_ne (show (17 : Nat) ≠ lp by omega), z_u_ne (show (17 : Nat) ≠ lp by omega)]
  rw [erw] at a3 a4 a5
  refine hQ _ _ ⟨rfl, _, _, I', _, _, rfl, gr, hL', fun q b1 b3 => ?_, fun k b1 b2 b3 b4 => ?_, ?_, ?_, ?_, a3, a4, a5⟩
  · rw [a1 q (by omega) (by omega) b3, eI q b1, z_u_ne b3, z_u_ne b3, z_u_ne b3]
  · rw [a2 k b3, eI lp (by omega)]; simp [z_u, b1, b2, b4]
  · rw [a2 0 (by omega), eI lp (by omega)]; simp [z_u]
  · rw [a2 1 (by omega), eI lp (by omega)]; simp [z_u]
  · rw [a2 5 (by omega), eI lp (by omega)]; simp [z_u]
end LAT4
