/-! The class: exploring, its answers -/
section FQ
variable {S : Nat → Int32} {kp : Int32 → Prop} {cl : Int32 → Int32}
theorem m_fq_none : ∀ {k v : Nat}, m_fq S kp cl k v = none → ∀ u, v ≤ u → u < v + k → ¬ (kp (S u) ∧ ¬ cl (S u) = S u)
  | 0, v, _, u, h1, h2 => by omega
  | k + 1, v, h, u, h1, h2 => by
    rw [m_fq] at h
    by_cases hq : kp (S v) ∧ ¬ cl (S v) = S v
    · rw [if_pos hq] at h; cases h
    · rw [if_neg hq] at h
      by_cases e : u = v
      · rw [e]; exact hq
      · exact m_fq_none h u (by omega) (by omega)
theorem m_fq_some : ∀ {k v w : Nat}, m_fq S kp cl k v = some w → v ≤ w ∧ w < v + k ∧ (kp (S w) ∧ ¬ cl (S w) = S w) ∧ ∀ u, v ≤ u → u < w → ¬ (kp (S u) ∧ ¬ cl (S u) = S u)
  | 0, v, w, h => by rw [m_fq] at h; cases h
  | k + 1, v, w, h => by
    rw [m_fq] at h
    by_cases hq : kp (S v) ∧ ¬ cl (S v) = S v
    · rw [if_pos hq] at h; cases h
      exact ⟨Nat.le_refl _, by omega, hq, fun u a b => by omega⟩
    · rw [if_neg hq] at h
      obtain ⟨a, b, c, d⟩ := m_fq_some h
      refine ⟨by omega, by omega, c, fun u h1 h2 => ?_⟩
      by_cases e : u = v
      · rw [e]; exact hq
      · exact d u (by omega) h2
theorem m_fq_skip {m : Nat} : ∀ {v0 : Nat}, v0 ≤ m → (∀ u, u < v0 → ¬ (kp (S u) ∧ ¬ cl (S u) = S u)) → m_fq S kp cl (m - v0) v0 = m_fq S kp cl m 0
  | 0, _, _ => rfl
  | v0 + 1, h1, h2 => by
    rw [← m_fq_skip (v0 := v0) (by omega) (fun u hu => h2 u (by omega)), show m - v0 = (m - (v0 + 1)) + 1 by omega, m_fq, if_neg (h2 v0 (by omega))]
end FQ
/-- the question of the class's exploring -/
noncomputable abbrev x_qu (I : Nat → Nat → Int32) (EN E A : Nat) : Option Nat := m_fq nI (x_ekp I A) (x_ecl I EN E) (2 ^ EN) 0
/-- no question ahead of v -/
def x_ah (I : Nat → Nat → Int32) (EN E A v : Nat) : Prop := ∀ u, u < v → ¬ (x_ekp I A (nI u) ∧ ¬ x_ecl I EN E (nI u) = nI u)
section X9
variable {l : Launch} {n : Nat} {K L : Nat → Nat} {I : Nat → Nat → Int32} {J : Nat → Nat → Int64} {G : Nat → Nat → Value} {EN E A v0 : Nat}
theorem x_eo.ah {I' : Nat → Nat → Int32} (h : x_eo I I') {v : Nat} (ha : x_ah I EN E A v) : x_ah I' EN E A v := by
  unfold x_ah x_ekp x_ecl at *
  rw [h.1 35 (by omega), h.1 36 (by omega), h.1 37 (by omega)]
  exact ha
theorem e11 (hex : x_ex I EN E A v0) (hah : x_ah I EN E A v0) {o : Option Nat} (ho : x_qu I EN E A = o) {r : Option Value} {h' : zH} (hq : ∃ I', h' = (n, K, L, I', J, G) ∧ x_eo I I' ∧ (o = none → r = some (.int 0) ∧ I' 34 8 = nI (2 ^ EN)) ∧ ∀ v, o = some v → r = some (.int 1) ∧ v < 2 ^ EN ∧ I' 34 8 = nI v ∧ I' 34 9 = x_ecl I EN E (nI v)) : ∃ I', h' = (n, K, L, I', J, G) ∧ x_eo I I' ∧ (o = none → r = some (.int 0) ∧ x_ex I' EN E A (2 ^ EN) ∧ x_ah I' EN E A (2 ^ EN)) ∧ ∀ v, o = some v → r = some (.int 1) ∧ x_ex I' EN E A v ∧ x_ah I' EN E A v ∧ v < 2 ^ EN ∧ I' 34 9 = x_ecl I EN E (nI v) := by
  have hle := hex.2.2.2.2.2.2.2.2
  obtain ⟨I', rfl, he, h1, h2⟩ := hq
  refine ⟨I', rfl, he, fun e => ⟨(h1 e).1, he.ex hex (h1 e).2 (Nat.le_refl _), he.ah ?_⟩, fun v e => ?_⟩
  · intro u hu
    exact m_fq_none (ho.trans e) u (by omega) (by omega)
  · obtain ⟨a, b, c, d⟩ := h2 v e
    exact ⟨a, he.ex hex c (by omega), he.ah (fun u hu => (m_fq_some (ho.trans e)).2.2.2 u (by omega) hu), b, d⟩
theorem c11' (hS : SS K L G) (hb : ¬ I 34 0 = 0) (hex : x_ex I EN E A v0) (hah : x_ah I EN E A v0) {o : Option Nat} (ho : x_qu I EN E A = o) : z_Ctr l 1 11 [.ref 34] (n, K, L, I, J, G) 0 0 (fun r h' => ∃ I', h' = (n, K, L, I', J, G) ∧ x_eo I I' ∧ (o = none → r = some (.int 0) ∧ I' 34 8 = nI (2 ^ EN)) ∧ ∀ v, o = some v → r = some (.int 1) ∧ v < 2 ^ EN ∧ I' 34 8 = nI v ∧ I' 34 9 = x_ecl I EN E (nI v)) := c11 hS hb hex (o := o) (by rw [← ho]; exact m_fq_skip hex.2.2.2.2.2.2.2.2 hah)
theorem c10_loop {X : zX} (hS : SS K L G) (hj : X.2.1 = 10) (hd : X.2.2.1 = 1) (hm : X.2.2.2.1 = 0) (hs : X.2.2.2.2.1 = 0) {mode : Int32} {F N : Nat} (hF : I 10 0 = nI F) (hF16 : F ≤ 16) (hN : I 34 1 = nI N) (hN12 : N ≤ 12) (hQ : ∀ r h', (r = none ∧ ∃ I', h' = (n, K, L, z_u (z_u I' 34 7 0) 34 8 0, J, G) ∧ (∀ q, q ≠ 34 → q ≠ 35 → I' q = I q) ∧ (∀ k, k ≠ 4 → I' 34 k = I 34 k) ∧ I' 34 4 = nI F ∧ ∀ f, f < F → I' 35 f = x_bw (x_row (I 16) (I 17) mode f) N) → X.2.2.2.2.2.2 r h') : ∀ (k i : Nat) (I' : Nat → Nat → Int32), i + k = F → (∀ q, q ≠ 34 → q ≠ 35 → I' q = I q) → (∀ k, k ≠ 4 → I' 34 k = I 34 k) → I' 34 4 = nI i → (∀ f, f < i → I' 35 f = x_bw (x_row (I 16) (I 17) mode f) N) → zV X 30 [some (.ref 34), some (.ref 10), some (.int mode), some (.int (nI i))] [] (n, K, L, I', J, G) 0 0
  | 0, i, I', hi, h1, h2, h3, h4 => by
    have e : i = F := by omega
    subst e
    have hF' : I' 10 0 = nI i := by rw [h1 10 (by omega) (by omega)]; exact hF
    refine zW_ok hj B10_30 30 _ _ _ _ _ b10_30 ?_
    simp only [B10_30, zW, z_wp1, z_ld, z_f0, z_f1, z_f2, z_f3, List.getElem?_cons_zero, List.getElem?_cons_succ, true_and, and_true, Int32.reduceOfInt, z_i10, z_i01, Int32.reduceLT, Int32.reduceLE, Int32.reduceAdd, Int32.reduceSub, z_set, z_set2, z_kil, List.set_cons_zero, List.set_cons_succ, List.take_succ_cons, List.take_zero, List.drop_succ_cons, List.drop_zero, List.reverse_cons, List.reverse_nil, List.nil_append, List.cons_append, List.getD_cons_succ, List.getD_cons_zero, List.getD_nil, List.length_cons, List.length_nil, List.map_cons, List.map_nil, List.sum_cons, List.sum_nil, Nat.reduceAdd, Nat.reduceLeDiff, Value.category, Option.toList, true_or, or_true, z_ua, ↓reduceIte, Nat.reduceEqDiff, eq_self, not_true_eq_false, not_false_eq_true, false_implies, true_implies, Classical.not_not, Nat.le_refl, Nat.zero_le, sK34 hS, sK10 hS, hF']
    try dsimp only
    refine ⟨fun _ => ?_, fun hc => absurd (nI_le (Nat.le_refl _) (by omega)) hc⟩
    refine zW_ok hj B10_85 85 _ _ _ _ _ b10_85 ?_
    simp only [B10_85, zW, z_wp1, z_ld, z_f0, z_f1, z_f2, z_f3, List.getElem?_cons_zero, List.getElem?_cons_succ, true_and, and_true, Int32.reduceOfInt, z_i10, z_i01, Int32.reduceLT, Int32.reduceLE, Int32.reduceAdd, Int32.reduceSub, z_set, z_set2, z_kil, List.set_cons_zero, List.set_cons_succ, List.take_succ_cons, List.take_zero, List.drop_succ_cons, List.drop_zero, List.reverse_cons, List.reverse_nil, List.nil_append, List.cons_append, List.getD_cons_succ, List.getD_cons_zero, List.getD_nil, List.length_cons, List.length_nil, List.map_cons, List.map_nil, List.sum_cons, List.sum_nil, Nat.reduceAdd, Nat.reduceLeDiff, Value.category, Option.toList, true_or, or_true, z_ua, ↓reduceIte, Nat.reduceEqDiff, eq_self, not_true_eq_false, not_false_eq_true, false_implies, true_implies, Classical.not_not, Nat.le_refl, Nat.zero_le, sK34 hS]
    try dsimp only
    exact hQ _ _ ⟨rfl, I', rfl, h1, h2, h3, h4⟩
  | k + 1, i, I', hi, h1, h2, h3, h4 => by
    have e2 : (nI i).toNatClampNeg = i := nI_clamp (by omega)
    have e3 : vp_in (nI i) 40 := vp_in_nI (by omega) (by omega)
    have hF' : I' 10 0 = nI F := by rw [h1 10 (by omega) (by omega)]; exact hF
    have hN' : I' 34 1 = nI N := by rw [h2 _ (by omega)]; exact hN
    have hlt : ¬ (40 : Int32) ≤ nI i := fun q => by
      have := (nI_leI (a := 40) (b := i) (by omega) (by omega)).mp q
      omega
    refine zW_ok hj B10_30 30 _ _ _ _ _ b10_30 ?_
    simp only [B10_30, zW, z_wp1, z_ld, z_f0, z_f1, z_f2, z_f3, List.getElem?_cons_zero, List.getElem?_cons_succ, true_and, and_true, Int32.reduceOfInt, z_i10, z_i01, Int32.reduceLT, Int32.reduceLE, Int32.reduceAdd, Int32.reduceSub, z_set, z_set2, z_kil, List.set_cons_zero, List.set_cons_succ, List.take_succ_cons, List.take_zero, List.drop_succ_cons, List.drop_zero, List.reverse_cons, List.reverse_nil, List.nil_append, List.cons_append, List.getD_cons_succ, List.getD_cons_zero, List.getD_nil, List.length_cons, List.length_nil, List.map_cons, List.map_nil, List.sum_cons, List.sum_nil, Nat.reduceAdd, Nat.reduceLeDiff, Value.category, Option.toList, true_or, or_true, z_ua, ↓reduceIte, Nat.reduceEqDiff, eq_self, not_true_eq_false, not_false_eq_true, false_implies, true_implies, Classical.not_not, Nat.le_refl, Nat.zero_le, sK34 hS, sK10 hS, hF', h3, hlt, sG34_3 hS, sK35 hS, sL35 hS]
    try dsimp only
    refine ⟨fun hc => absurd hc (nI_ge (by omega) (by omega)), fun _ => ?_⟩
    refine z_callD (c98 hS (f := i) (by omega) mode) (by omega) (by omega) (by omega) (Nat.le_of_ble_eq_true rfl) ?_
    try simp only [zW, z_wp1, z_ld, z_f0, z_f1, z_f2, z_f3, List.getElem?_cons_zero, List.getElem?_cons_succ, true_and, and_true, Int32.reduceOfInt, z_i10, z_i01, Int32.reduceLT, Int32.reduceLE, Int32.reduceAdd, Int32.reduceSub, z_set, z_set2, z_kil, List.set_cons_zero, List.set_cons_succ, List.take_succ_cons, List.take_zero, List.drop_succ_cons, List.drop_zero, List.reverse_cons, List.reverse_nil, List.nil_append, List.cons_append, List.getD_cons_succ, List.getD_cons_zero, List.getD_nil, List.length_cons, List.length_nil, List.map_cons, List.map_nil, List.sum_cons, List.sum_nil, Nat.reduceAdd, Nat.reduceLeDiff, Value.category, Option.toList, true_or, or_true, z_ua, ↓reduceIte, Nat.reduceEqDiff, eq_self, not_true_eq_false, not_false_eq_true, false_implies, true_implies, Classical.not_not, Nat.le_refl, Nat.zero_le, sK34 hS, hN']
    try dsimp only
    rw [h1 16 (by omega) (by omega), h1 17 (by omega) (by omega)]
    refine z_callD (c157 (N := N) (by omega) (x_row (I 16) (I 17) mode i)) (by omega) (by omega) (by omega) (Nat.le_of_ble_eq_true rfl) ?_
    try simp only [zW, z_wp1, z_ld, z_f0, z_f1, z_f2, z_f3, List.getElem?_cons_zero, List.getElem?_cons_succ, true_and, and_true, Int32.reduceOfInt, z_i10, z_i01, Int32.reduceLT, Int32.reduceLE, Int32.reduceAdd, Int32.reduceSub, z_set, z_set2, z_kil, List.set_cons_zero, List.set_cons_succ, List.take_succ_cons, List.take_zero, List.drop_succ_cons, List.drop_zero, List.reverse_cons, List.reverse_nil, List.nil_append, List.cons_append, List.getD_cons_succ, List.getD_cons_zero, List.getD_nil, List.length_cons, List.length_nil, List.map_cons, List.map_nil, List.sum_cons, List.sum_nil, Nat.reduceAdd, Nat.reduceLeDiff, Value.category, Option.toList, true_or, or_true, z_ua, ↓reduceIte, Nat.reduceEqDiff, eq_self, not_true_eq_false, not_false_eq_true, false_implies, true_implies, Classical.not_not, Nat.le_refl, Nat.zero_le, sK34 hS, h3, e2, e3, sG34_3 hS, sK35 hS, sL35 hS, nI_1]
    try dsimp only
    refine c10_loop hS hj hd hm hs hF hF16 hN hN12 hQ k (i + 1) _ (by omega) (fun q a b => ?_) (fun q a => ?_) (by simp [z_u]) (fun f hf => ?_)
    · rw [z_u_ne a, z_u_ne b]; exact h1 q a b
    · rw [z_u_at, if_neg a, z_u_ne (by omega)]; exact h2 q a
    · rw [z_u_ne (by omega), z_u_at]
      by_cases e : f = i
      · rw [if_pos e, e]
      · rw [if_neg e]; exact h4 f (by omega)
theorem c10 (hS : SS K L G) {cd F N : Nat} (hC : XC G cd) (hF : I 10 0 = nI F) (hF16 : F ≤ 16) (hN : I cd 3 = nI N) (hN12 : N ≤ 12) (mode : Int32) : z_Ctr l 1 10 [.ref 34, .ref 10, .int mode] (n, K, L, I, J, G) 0 0 (fun r h' => r = none ∧ ∃ I', h' = (n, K, L, I', J, G) ∧ (∀ q, q ≠ 34 → q ≠ 35 → I' q = I q) ∧ ¬ I' 34 0 = 0 ∧ x_ex I' N F 0 0 ∧ ∀ f, f < F → I' 35 f = x_bw (x_row (I 16) (I 17) mode f) N) := by
  have c1 := hC.1
  refine z_ctr (by decide) (by decide +kernel) (Nat.le_of_ble_eq_true rfl) (by decide +kernel) (fun X hl hj hd hm hs hsc hQ => ?_)
  show zV X 0 [some (.ref 34), some (.ref 10), some (.int mode), none] [] _ 0 0
  refine zW_ok hj B10_0 0 _ _ _ _ _ b10_0 ?_
  simp only [B10_0, zW, z_wp1, z_ld, z_f0, z_f1, z_f2, z_f3, List.getElem?_cons_zero, List.getElem?_cons_succ, true_and, and_true, Int32.reduceOfInt, z_i10, z_i01, Int32.reduceLT, Int32.reduceLE, Int32.reduceAdd, Int32.reduceSub, z_set, z_set2, z_kil, List.set_cons_zero, List.set_cons_succ, List.take_succ_cons, List.take_zero, List.drop_succ_cons, List.drop_zero, List.reverse_cons, List.reverse_nil, List.nil_append, List.cons_append, List.getD_cons_succ, List.getD_cons_zero, List.getD_nil, List.length_cons, List.length_nil, List.map_cons, List.map_nil, List.sum_cons, List.sum_nil, Nat.reduceAdd, Nat.reduceLeDiff, Value.category, Option.toList, true_or, or_true, z_ua, ↓reduceIte, Nat.reduceEqDiff, eq_self, not_true_eq_false, not_false_eq_true, false_implies, true_implies, Classical.not_not, Nat.le_refl, Nat.zero_le, sK34 hS, sK10 hS, z_nb1]
  try dsimp only
  have e0 : z_u I 34 0 1 cd 3 = nI N := by rw [z_u_ne (by omega)]; exact hN
  refine z_callD (c90 (I := z_u I 34 0 1) hS hC) (by omega) (by omega) (by omega) (Nat.le_of_ble_eq_true rfl) ?_
  try simp only [zW, z_wp1, z_ld, z_f0, z_f1, z_f2, z_f3, List.getElem?_cons_zero, List.getElem?_cons_succ, true_and, and_true, Int32.reduceOfInt, z_i10, z_i01, Int32.reduceLT, Int32.reduceLE, Int32.reduceAdd, Int32.reduceSub, z_set, z_set2, z_kil, List.set_cons_zero, List.set_cons_succ, List.take_succ_cons, List.take_zero, List.drop_succ_cons, List.drop_zero, List.reverse_cons, List.reverse_nil, List.nil_append, List.cons_append, List.getD_cons_succ, List.getD_cons_zero, List.getD_nil, List.length_cons, List.length_nil, List.map_cons, List.map_nil, List.sum_cons, List.sum_nil, Nat.reduceAdd, Nat.reduceLeDiff, Value.category, Option.toList, true_or, or_true, z_ua, ↓reduceIte, Nat.reduceEqDiff, eq_self, not_true_eq_false, not_false_eq_true, false_implies, true_implies, Classical.not_not, Nat.le_refl, Nat.zero_le, sK34 hS, e0, hN, z_shl1 (show N < 17 by omega), show ¬ cd = 34 by omega]
  try dsimp only
  refine c10_loop (I := z_u (z_u (z_u (z_u I 34 0 1) 34 1 (nI N)) 34 2 (nI (2 ^ N))) 34 4 0) hS hj hd hm hs (F := F) (N := N) (by simp [z_u]; exact hF) hF16 (by simp [z_u]) hN12 ?_ F 0 _ (by omega) (fun _ _ _ => rfl) (fun _ _ => rfl) (by simp [z_u, nI_0]) (fun f hf => by omega)
  rintro r h' ⟨rfl, I2, rfl, h1, h2, h3, h4⟩
  refine hQ _ _ ⟨rfl, _, rfl, fun q a b => ?_, ?_, ⟨?_, ?_, hN12, ?_, by omega, ?_, by omega, ?_, Nat.zero_le _⟩, fun f hf => ?_⟩
  · rw [z_u_ne a, z_u_ne a, h1 q a b, z_u_ne a, z_u_ne a, z_u_ne a, z_u_ne a]
  · simp only [z_ua]; rw [h2 0 (by omega)]; simp [z_u]
  · simp only [z_ua]; rw [h2 1 (by omega)]; simp [z_u]
  · simp only [z_ua]; rw [h2 2 (by omega)]; simp [z_u]
  · simp only [z_ua]; rw [h3]; simp
  · simp [z_u, nI_0]
  · simp [z_u, nI_0]
  · simp only [z_ua]
    simp only [show ¬ (35 : Nat) = 34 by omega, if_false]
    rw [h4 f hf]
    simp only [z_u_ne (show (16 : Nat) ≠ 34 by omega), z_u_ne (show (17 : Nat) ≠ 34 by omega)]
theorem c14y (hS : SS K L G) (hb : ¬ I 34 0 = 0) (hex : x_ex I EN E A v0) (hah : x_ah I EN E A v0) {v : Nat} (ho : x_qu I EN E A = some v) (hA : A < 60) : z_Ctr l 2 14 [.ref 34] (n, K, L, I, J, G) 0 0 (fun r h' => r = some (.int 1) ∧ ∃ I', h' = (n, K, L, z_u (z_u (z_u I' 36 A (nI v)) 37 A (x_ecl I EN E (nI v))) 34 7 (nI (A + 1)), J, G) ∧ x_eo I I' ∧ x_ex I' EN E A v ∧ x_ah I' EN E A v) := by
  obtain ⟨x1, x2, x3, x4, x5, x6, x7, x8, x9⟩ := id hex
  have hlt : ¬ (60 : Int32) ≤ nI A := fun q => by
    have := (nI_leI (a := 60) (b := A) (by omega) (by omega)).mp q
    omega
  have e2 : (nI A).toNatClampNeg = A := nI_clamp (by omega)
  have e3 : vp_in (nI A) 60 := vp_in_nI (by omega) (by omega)
  refine z_ctr (by decide) (by decide +kernel) (Nat.le_of_ble_eq_true rfl) (by decide +kernel) (fun X hl hj hd hm hs hsc hQ => ?_)
  show zV X 0 [some (.ref 34)] [] _ 0 0
  refine zW_ok hj B14_0 0 _ _ _ _ _ b14_0 ?_
  simp only [B14_0, zW, z_wp1, z_ld, z_f0, z_f1, z_f2, z_f3, List.getElem?_cons_zero, List.getElem?_cons_succ, true_and, and_true, Int32.reduceOfInt, z_i10, z_i01, Int32.reduceLT, Int32.reduceLE, Int32.reduceAdd, Int32.reduceSub, z_set, z_set2, z_kil, List.set_cons_zero, List.set_cons_succ, List.take_succ_cons, List.take_zero, List.drop_succ_cons, List.drop_zero, List.reverse_cons, List.reverse_nil, List.nil_append, List.cons_append, List.getD_cons_succ, List.getD_cons_zero, List.getD_nil, List.length_cons, List.length_nil, List.map_cons, List.map_nil, List.sum_cons, List.sum_nil, Nat.reduceAdd, Nat.reduceLeDiff, Value.category, Option.toList, true_or, or_true, z_ua, ↓reduceIte, Nat.reduceEqDiff, eq_self, not_true_eq_false, not_false_eq_true, false_implies, true_implies, Classical.not_not, Nat.le_refl, Nat.zero_le, sK34 hS, x6, hlt]
  try dsimp only
  refine z_callQ (c11' hS hb hex hah ho) (by omega) (by omega) (by omega) (Nat.le_of_ble_eq_true rfl) ?_
  intro r h' hq
  obtain ⟨I', rfl, he, h1, h2⟩ := e11 hex hah ho hq
  obtain ⟨rfl, h3, h4, h5, h6⟩ := h2 v rfl
  obtain ⟨y1, y2, y3, y4, y5, y6, y7, y8, y9⟩ := id h3
  simp only [zW, z_wp1, z_ld, z_f0, z_f1, z_f2, z_f3, List.getElem?_cons_zero, List.getElem?_cons_succ, true_and, and_true, Int32.reduceOfInt, z_i10, z_i01, Int32.reduceLT, Int32.reduceLE, Int32.reduceAdd, Int32.reduceSub, z_set, z_set2, z_kil, List.set_cons_zero, List.set_cons_succ, List.take_succ_cons, List.take_zero, List.drop_succ_cons, List.drop_zero, List.reverse_cons, List.reverse_nil, List.nil_append, List.cons_append, List.getD_cons_succ, List.getD_cons_zero, List.getD_nil, List.length_cons, List.length_nil, List.map_cons, List.map_nil, List.sum_cons, List.sum_nil, Nat.reduceAdd, Nat.reduceLeDiff, Value.category, Option.toList, true_or, or_true, z_ua, ↓reduceIte, Nat.reduceEqDiff, eq_self, not_true_eq_false, not_false_eq_true, false_implies, true_implies, Classical.not_not, Nat.le_refl, Nat.zero_le]
  try dsimp only
  refine zW_ok hj B14_18 18 _ _ _ _ _ b14_18 ?_
  simp only [B14_18, zW, z_wp1, z_ld, z_f0, z_f1, z_f2, z_f3, List.getElem?_cons_zero, List.getElem?_cons_succ, true_and, and_true, Int32.reduceOfInt, z_i10, z_i01, Int32.reduceLT, Int32.reduceLE, Int32.reduceAdd, Int32.reduceSub, z_set, z_set2, z_kil, List.set_cons_zero, List.set_cons_succ, List.take_succ_cons, List.take_zero, List.drop_succ_cons, List.drop_zero, List.reverse_cons, List.reverse_nil, List.nil_append, List.cons_append, List.getD_cons_succ, List.getD_cons_zero, List.getD_nil, List.length_cons, List.length_nil, List.map_cons, List.map_nil, List.sum_cons, List.sum_nil, Nat.reduceAdd, Nat.reduceLeDiff, Value.category, Option.toList, true_or, or_true, z_ua, ↓reduceIte, Nat.reduceEqDiff, eq_self, not_true_eq_false, not_false_eq_true, false_implies, true_implies, Classical.not_not, Nat.le_refl, Nat.zero_le, sK34 hS, sG34_5 hS, sK36 hS, sL36 hS, sG34_6 hS, sK37 hS, sL37 hS, y6, y8, h6, e2, e3, nI_1]
  try dsimp only
  exact hQ _ _ ⟨rfl, I', rfl, he, h3, h4⟩
theorem c14n (hS : SS K L G) (hex : ¬ I 34 0 = 0 → x_ex I EN E A v0 ∧ x_ah I EN E A v0) (h7 : ∃ A, I 34 7 = nI A ∧ A ≤ 60) (ho : ¬ (¬ I 34 0 = 0 ∧ (∃ v, x_qu I EN E A = some v) ∧ A < 60)) : z_Ctr l 2 14 [.ref 34] (n, K, L, I, J, G) 0 0 (fun r h' => r = some (.int 0) ∧ ∃ I', h' = (n, K, L, I', J, G) ∧ x_eo I I' ∧ (¬ I 34 0 = 0 → ∃ v, x_ex I' EN E A v ∧ x_ah I' EN E A v)) := by
  obtain ⟨A', x6, x7⟩ := h7
  have no : ∀ I', x_eo I I' → (¬ I 34 0 = 0 → ∃ v, x_ex I' EN E A v ∧ x_ah I' EN E A v) → ∀ X : zX, X.2.1 = 14 → (∀ r h', (r = some (.int 0) ∧ ∃ I', h' = (n, K, L, I', J, G) ∧ x_eo I I' ∧ (¬ I 34 0 = 0 → ∃ v, x_ex I' EN E A v ∧ x_ah I' EN E A v)) → X.2.2.2.2.2.2 r h') → zV X 16 [some (.ref 34)] [] (n, K, L, I', J, G) 0 0 := by
    intro I' he hh X hj hQ
    refine zW_ok hj B14_16 16 _ _ _ _ _ b14_16 ?_
    simp only [B14_16, zW, z_wp1, z_ld, z_f0, z_f1, z_f2, z_f3, List.getElem?_cons_zero, List.getElem?_cons_succ, true_and, and_true, Int32.reduceOfInt, z_i10, z_i01, Int32.reduceLT, Int32.reduceLE, Int32.reduceAdd, Int32.reduceSub, z_set, z_set2, z_kil, List.set_cons_zero, List.set_cons_succ, List.take_succ_cons, List.take_zero, List.drop_succ_cons, List.drop_zero, List.reverse_cons, List.reverse_nil, List.nil_append, List.cons_append, List.getD_cons_succ, List.getD_cons_zero, List.getD_nil, List.length_cons, List.length_nil, List.map_cons, List.map_nil, List.sum_cons, List.sum_nil, Nat.reduceAdd, Nat.reduceLeDiff, Value.category, Option.toList, true_or, or_true, z_ua, ↓reduceIte, Nat.reduceEqDiff, eq_self, not_true_eq_false, not_false_eq_true, false_implies, true_implies, Classical.not_not, Nat.le_refl, Nat.zero_le]
    try dsimp only
    exact hQ _ _ ⟨rfl, I', rfl, he, hh⟩
  refine z_ctr (by decide) (by decide +kernel) (Nat.le_of_ble_eq_true rfl) (by decide +kernel) (fun X hl hj hd hm hs hsc hQ => ?_)
  show zV X 0 [some (.ref 34)] [] _ 0 0
  refine zW_ok hj B14_0 0 _ _ _ _ _ b14_0 ?_
  simp only [B14_0, zW, z_wp1, z_ld, z_f0, z_f1, z_f2, z_f3, List.getElem?_cons_zero, List.getElem?_cons_succ, true_and, and_true, Int32.reduceOfInt, z_i10, z_i01, Int32.reduceLT, Int32.reduceLE, Int32.reduceAdd, Int32.reduceSub, z_set, z_set2, z_kil, List.set_cons_zero, List.set_cons_succ, List.take_succ_cons, List.take_zero, List.drop_succ_cons, List.drop_zero, List.reverse_cons, List.reverse_nil, List.nil_append, List.cons_append, List.getD_cons_succ, List.getD_cons_zero, List.getD_nil, List.length_cons, List.length_nil, List.map_cons, List.map_nil, List.sum_cons, List.sum_nil, Nat.reduceAdd, Nat.reduceLeDiff, Value.category, Option.toList, true_or, or_true, z_ua, ↓reduceIte, Nat.reduceEqDiff, eq_self, not_true_eq_false, not_false_eq_true, false_implies, true_implies, Classical.not_not, Nat.le_refl, Nat.zero_le, sK34 hS, x6]
  try dsimp only
  have rr : x_eo I I := ⟨fun _ _ => rfl, fun _ _ _ => rfl⟩
  refine ⟨fun _ => no I rr (fun hb => ⟨v0, hex hb⟩) X hj hQ, fun hlt => ?_⟩
  by_cases hb : I 34 0 = 0
  · refine z_callD (c11n hS hb) (by omega) (by omega) (by omega) (Nat.le_of_ble_eq_true rfl) ?_
    try simp only [zW, z_wp1, z_ld, z_f0, z_f1, z_f2, z_f3, List.getElem?_cons_zero, List.getElem?_cons_succ, true_and, and_true, Int32.reduceOfInt, z_i10, z_i01, Int32.reduceLT, Int32.reduceLE, Int32.reduceAdd, Int32.reduceSub, z_set, z_set2, z_kil, List.set_cons_zero, List.set_cons_succ, List.take_succ_cons, List.take_zero, List.drop_succ_cons, List.drop_zero, List.reverse_cons, List.reverse_nil, List.nil_append, List.cons_append, List.getD_cons_succ, List.getD_cons_zero, List.getD_nil, List.length_cons, List.length_nil, List.map_cons, List.map_nil, List.sum_cons, List.sum_nil, Nat.reduceAdd, Nat.reduceLeDiff, Value.category, Option.toList, true_or, or_true, z_ua, ↓reduceIte, Nat.reduceEqDiff, eq_self, not_true_eq_false, not_false_eq_true, false_implies, true_implies, Classical.not_not, Nat.le_refl, Nat.zero_le]
    try dsimp only
    exact no I rr (fun hb => ⟨v0, hex hb⟩) X hj hQ
  · obtain ⟨hx, hah⟩ := hex hb
    have hAA : A' = A := (nI_eq (by omega) (by have := hx.2.2.2.2.2.2.1; omega)).mp (x6.symm.trans hx.2.2.2.2.2.1)
    subst hAA
    have hA : A' < 60 := by
      rcases Nat.lt_or_ge A' 60 with h | h
      · exact h
      · exact absurd ((nI_leI (a := 60) (b := A') (by omega) (by omega)).mpr h) hlt
    cases hq : x_qu I EN E A' with
    | some v => exact absurd ⟨hb, ⟨v, hq⟩, hA⟩ ho
    | none =>
      refine z_callQ (c11' hS hb hx hah hq) (by omega) (by omega) (by omega) (Nat.le_of_ble_eq_true rfl) ?_
      intro r h' hq'
      obtain ⟨I', rfl, he, h1, h2⟩ := e11 hx hah hq hq'
      obtain ⟨rfl, h3, h4⟩ := h1 rfl
      simp only [zW, z_wp1, z_ld, z_f0, z_f1, z_f2, z_f3, List.getElem?_cons_zero, List.getElem?_cons_succ, true_and, and_true, Int32.reduceOfInt, z_i10, z_i01, Int32.reduceLT, Int32.reduceLE, Int32.reduceAdd, Int32.reduceSub, z_set, z_set2, z_kil, List.set_cons_zero, List.set_cons_succ, List.take_succ_cons, List.take_zero, List.drop_succ_cons, List.drop_zero, List.reverse_cons, List.reverse_nil, List.nil_append, List.cons_append, List.getD_cons_succ, List.getD_cons_zero, List.getD_nil, List.length_cons, List.length_nil, List.map_cons, List.map_nil, List.sum_cons, List.sum_nil, Nat.reduceAdd, Nat.reduceLeDiff, Value.category, Option.toList, true_or, or_true, z_ua, ↓reduceIte, Nat.reduceEqDiff, eq_self, not_true_eq_false, not_false_eq_true, false_implies, true_implies, Classical.not_not, Nat.le_refl, Nat.zero_le]
      try dsimp only
      exact no I' he (fun _ => ⟨_, h3, h4⟩) X hj hQ
end X9
