/-! Crosses of the class: mates and marks listed -/
theorem z_min (P : Nat → Prop) (h : ∃ m, P m) : ∃ m, P m ∧ ∀ k, P k → m ≤ k := by
  obtain ⟨m, hm⟩ := h
  induction m using Nat.strongRecOn with
  | ind m ih =>
    by_cases q : ∃ k, k < m ∧ P k
    · obtain ⟨k, h1, h2⟩ := q
      exact ih k h1 h2
    · exact ⟨m, hm, fun k hk => by
        rcases Nat.lt_or_ge k m with z | z
        · exact absurd ⟨k, z, hk⟩ q
        · exact z⟩
theorem c_B_ex (C : (Nat → Nat) → Nat) {n : Nat} (hn : n ≤ 16) : ∃ b, c_B C n b := by
  obtain ⟨m, ⟨b, hb, rfl⟩, hm⟩ := z_min (fun m => ∃ b, c_P n b ∧ C b * 16 ^ n + c_v b n = m) ⟨_, fun i => i, ⟨fun i h => h, fun i j _ _ e => e⟩, rfl⟩
  have hbd : ∀ v, c_P n v → c_v v n < 16 ^ n := fun v hv => c_v_bd (fun j hj => by have := hv.1 j hj; omega)
  refine ⟨b, hb, fun v hv => ?_, fun v hv hl => ?_⟩
  · have h1 := hm _ ⟨v, hv, rfl⟩
    have h2 := hbd v hv
    rcases Nat.lt_or_ge (C v) (C b) with z | z
    · have : (C v + 1) * 16 ^ n ≤ C b * 16 ^ n := Nat.mul_le_mul_right _ z
      rw [Nat.add_mul] at this
      omega
    · exact z
  · have h1 := hm _ ⟨v, hv, rfl⟩
    rcases Nat.lt_or_ge (C b) (C v) with z | z
    · exact z
    · have : C v * 16 ^ n ≤ C b * 16 ^ n := Nat.mul_le_mul_right _ z
      omega
/-- the search finds the first of the best -/
theorem c_im_B {h : Nat → Nat → Bool} {lm : Nat → Int32} {n m ls ls' : Nat} {be be' : Nat → Nat} (hn : n ≤ 16) (hlm : ∀ p q, p < n → zb (lm p) q = true → q < p ∧ ∀ k, k < m → h k q = h k p) (hls : ∀ v, c_P n v → c_C h n m v < ls) (him : c_im (c_C h n m) n (c_S lm n be 0) (c_E n be 0) ls be ls' be') : c_B (c_C h n m) n be' ∧ ls' = c_C h n m be' := by
  obtain ⟨b, hb⟩ := c_B_ex (c_C h n m) hn
  have had : c_S lm n be 0 b := ⟨⟨hb.1, fun i hi q hq => by
    obtain ⟨h1, h2⟩ := hlm (b i) q (hb.1.1 i hi) hq
    exact hb.mates hn hi h1 h2, fun h2 => hb.back hn h2⟩, fun i hi => by omega⟩
  have h1 := him.1 b had
  have h2 := hls b hb.1
  rcases him.2 with ⟨z, _⟩ | ⟨z1, z2, z3, z4, z5⟩
  · omega
  · have h3 := hb.2.1 be' z2
    refine ⟨⟨z2, fun v hv => by have := hb.2.1 v hv; omega, fun v hv hl => ?_⟩, z4.symm⟩
    rcases Nat.lt_or_ge (c_C h n m be') (c_C h n m v) with y | y
    · exact y
    · have h4 := hb.2.1 v hv
      rcases Nat.lt_or_ge (c_v v n) (c_v b n) with x | x
      · have := hb.2.2 v hv x
        omega
      · have := z5 b had (by omega)
        omega
def x_lm (mo : Nat → Int32) (p : Nat) : Nat → Int32
  | 0 => 0
  | q + 1 => x_lm mo p q ||| (if mo q = mo p then 1 <<< (nI q &&& 31) else 0)
theorem x_lm_b {mo : Nat → Int32} {p q : Nat} : ∀ {k : Nat}, k ≤ 16 → (zb (x_lm mo p k) q = true ↔ q < k ∧ mo q = mo p)
  | 0, _ => by simp [x_lm, zb_0]
  | k + 1, hk => by
    have ih := x_lm_b (mo := mo) (p := p) (q := q) (k := k) (by omega)
    rw [x_lm, zb_or, Bool.or_eq_true, ih]
    by_cases e : mo k = mo p
    · rw [if_pos e, zb_sh1 (by omega)]
      constructor
      · rintro (⟨a, b⟩ | a)
        · exact ⟨by omega, b⟩
        · have : q = k := by simpa using a
          rw [this]
          exact ⟨by omega, e⟩
      · rintro ⟨a, b⟩
        by_cases z : q = k
        · right; simp [z]
        · left; exact ⟨by omega, b⟩
    · rw [if_neg e, zb_0]
      constructor
      · rintro (⟨a, b⟩ | a)
        · exact ⟨by omega, b⟩
        · cases a
      · rintro ⟨a, b⟩
        by_cases z : q = k
        · rw [z] at b; exact absurd b e
        · left; exact ⟨by omega, b⟩
section CRS9
variable {l : Launch} {n : Nat} {K L : Nat → Nat} {I : Nat → Nat → Int32} {J : Nat → Nat → Int64} {G : Nat → Nat → Value} {cn : Nat}
theorem c2_in {X : zX} (hS : SS K L G) (hj : X.2.1 = 2) {p : Nat} (hp : p < 8) (kk : ∀ I' x2, (∀ q, q ≠ 46 → I' q = I q) → (∀ g, g ≠ p → I' 46 g = I 46 g) → I' 46 p = x_lm (I 45) p p → zV X 61 [some (.ref 43), some (.int (nI p)), x2] [] (n, K, L, I', J, G) 0 0) : ∀ (k q : Nat) (I' : Nat → Nat → Int32), q + k = p → (∀ q, q ≠ 46 → I' q = I q) → (∀ g, g ≠ p → I' 46 g = I 46 g) → I' 46 p = x_lm (I 45) p q → zV X 19 [some (.ref 43), some (.int (nI p)), some (.int (nI q))] [] (n, K, L, I', J, G) 0 0
  | 0, q, I', hk, o1, o2, o3 => by
    have e : q = p := by omega
    subst e
    have le : nI q ≤ nI q := nI_le (Nat.le_refl _) (by omega)
    refine zW_ok hj B2_19 19 _ _ _ _ _ b2_19 ?_
    simp only [B2_19, zW, z_wp1, z_ld, z_f0, z_f1, z_f2, z_f3, List.getElem?_cons_zero, List.getElem?_cons_succ, true_and, and_true, Int32.reduceOfInt, z_i10, z_i01, Int32.reduceLT, Int32.reduceLE, Int32.reduceAdd, Int32.reduceSub, z_set, z_set2, z_kil, List.set_cons_zero, List.set_cons_succ, List.take_succ_cons, List.take_zero, List.drop_succ_cons, List.drop_zero, List.reverse_cons, List.reverse_nil, List.nil_append, List.cons_append, List.getD_cons_succ, List.getD_cons_zero, List.getD_nil, List.length_cons, List.length_nil, List.map_cons, List.map_nil, List.sum_cons, List.sum_nil, Nat.reduceAdd, Nat.reduceLeDiff, Value.category, Option.toList, true_or, or_true, z_ua, ↓reduceIte, Nat.reduceEqDiff, eq_self, not_true_eq_false, not_false_eq_true, false_implies, true_implies, Classical.not_not, Nat.le_refl, Nat.zero_le, le]
    try dsimp only
    exact kk I' _ o1 o2 o3
  | k + 1, q, I', hk, o1, o2, o3 => by
    have e45 : I' 45 = I 45 := o1 45 (by decide)
    have ep : (nI p).toNatClampNeg = p := nI_clamp (by omega)
    have vp : vp_in (nI p) 8 := vp_in_nI (by omega) (by omega)
    have eq : (nI q).toNatClampNeg = q := nI_clamp (by omega)
    have vq : vp_in (nI q) 8 := vp_in_nI (by omega) (by omega)
    have nle : ¬ nI p ≤ nI q := nI_ge (by omega) (by omega)
    have go : ∀ b : Int32, x_lm (I 45) p (q + 1) = x_lm (I 45) p q ||| b → zV X 53 [some (.ref 43), some (.int (nI p)), some (.int (nI q))] [.int b, .int (x_lm (I 45) p q), .int (nI p), .ref 46] (n, K, L, I', J, G) 0 0 := by
      intro b hb
      refine zW_ok hj B2_53 53 _ _ _ _ _ b2_53 ?_
      simp only [B2_53, zW, z_wp1, z_ld, z_f0, z_f1, z_f2, z_f3, List.getElem?_cons_zero, List.getElem?_cons_succ, true_and, and_true, Int32.reduceOfInt, z_i10, z_i01, Int32.reduceLT, Int32.reduceLE, Int32.reduceAdd, Int32.reduceSub, z_set, z_set2, z_kil, List.set_cons_zero, List.set_cons_succ, List.take_succ_cons, List.take_zero, List.drop_succ_cons, List.drop_zero, List.reverse_cons, List.reverse_nil, List.nil_append, List.cons_append, List.getD_cons_succ, List.getD_cons_zero, List.getD_nil, List.length_cons, List.length_nil, List.map_cons, List.map_nil, List.sum_cons, List.sum_nil, Nat.reduceAdd, Nat.reduceLeDiff, Value.category, Option.toList, true_or, or_true, z_ua, ↓reduceIte, Nat.reduceEqDiff, eq_self, not_true_eq_false, not_false_eq_true, false_implies, true_implies, Classical.not_not, Nat.le_refl, Nat.zero_le, sG43_7 hS, sK46 hS, sL46 hS, ep, vp, nI_1, sK46 hS, sL46 hS]
      try dsimp only
      refine c2_in hS hj hp kk k (q + 1) _ (by omega) (fun r hr => by rw [z_u_ne hr]; exact o1 r hr) (fun g hg => by rw [z_u_at, if_neg hg]; exact o2 g hg) (by rw [z_u_at, if_pos rfl, hb])
    refine zW_ok hj B2_19 19 _ _ _ _ _ b2_19 ?_
    simp only [B2_19, zW, z_wp1, z_ld, z_f0, z_f1, z_f2, z_f3, List.getElem?_cons_zero, List.getElem?_cons_succ, true_and, and_true, Int32.reduceOfInt, z_i10, z_i01, Int32.reduceLT, Int32.reduceLE, Int32.reduceAdd, Int32.reduceSub, z_set, z_set2, z_kil, List.set_cons_zero, List.set_cons_succ, List.take_succ_cons, List.take_zero, List.drop_succ_cons, List.drop_zero, List.reverse_cons, List.reverse_nil, List.nil_append, List.cons_append, List.getD_cons_succ, List.getD_cons_zero, List.getD_nil, List.length_cons, List.length_nil, List.map_cons, List.map_nil, List.sum_cons, List.sum_nil, Nat.reduceAdd, Nat.reduceLeDiff, Value.category, Option.toList, true_or, or_true, z_ua, ↓reduceIte, Nat.reduceEqDiff, eq_self, not_true_eq_false, not_false_eq_true, false_implies, true_implies, Classical.not_not, Nat.le_refl, Nat.zero_le, nle, sK43 hS, sG43_7 hS, sK46 hS, sL46 hS, sG43_6 hS, sK45 hS, sL45 hS, ep, vp, eq, vq, o3, e45]
    try dsimp only
    refine ⟨fun h => ?_, fun h => ?_⟩
    · refine zW_ok hj B2_52 52 _ _ _ _ _ b2_52 ?_
      simp only [B2_52, zW, z_wp1, z_ld, z_f0, z_f1, z_f2, z_f3, List.getElem?_cons_zero, List.getElem?_cons_succ, true_and, and_true, Int32.reduceOfInt, z_i10, z_i01, Int32.reduceLT, Int32.reduceLE, Int32.reduceAdd, Int32.reduceSub, z_set, z_set2, z_kil, List.set_cons_zero, List.set_cons_succ, List.take_succ_cons, List.take_zero, List.drop_succ_cons, List.drop_zero, List.reverse_cons, List.reverse_nil, List.nil_append, List.cons_append, List.getD_cons_succ, List.getD_cons_zero, List.getD_nil, List.length_cons, List.length_nil, List.map_cons, List.map_nil, List.sum_cons, List.sum_nil, Nat.reduceAdd, Nat.reduceLeDiff, Value.category, Option.toList, true_or, or_true, z_ua, ↓reduceIte, Nat.reduceEqDiff, eq_self, not_true_eq_false, not_false_eq_true, false_implies, true_implies, Classical.not_not, Nat.le_refl, Nat.zero_le]
      try dsimp only
      exact go 0 (by rw [x_lm, if_neg h])
    · exact go _ (by rw [x_lm, if_pos h])
theorem c2_out {X : zX} (hS : SS K L G) (hj : X.2.1 = 2) (h4 : I 43 4 = nI cn) (hc : cn ≤ 8) (hQ : ∀ r h', (r = none ∧ ∃ I', h' = (n, K, L, I', J, G) ∧ (∀ q, q ≠ 46 → I' q = I q) ∧ ∀ p, p < cn → I' 46 p = x_lm (I 45) p p) → X.2.2.2.2.2.2 r h') : ∀ (k p : Nat) (I' : Nat → Nat → Int32) (x2 : Option Value), p + k = cn → (∀ q, q ≠ 46 → I' q = I q) → (∀ g, g < p → I' 46 g = x_lm (I 45) g g) → zV X 2 [some (.ref 43), some (.int (nI p)), x2] [] (n, K, L, I', J, G) 0 0
  | 0, p, I', x2, hk, o1, o2 => by
    have e : p = cn := by omega
    subst e
    have g4 : I' 43 4 = nI p := by rw [o1 43 (by decide)]; exact h4
    refine zW_ok hj B2_2 2 _ _ _ _ _ b2_2 ?_
    simp only [B2_2, zW, z_wp1, z_ld, z_f0, z_f1, z_f2, z_f3, List.getElem?_cons_zero, List.getElem?_cons_succ, true_and, and_true, Int32.reduceOfInt, z_i10, z_i01, Int32.reduceLT, Int32.reduceLE, Int32.reduceAdd, Int32.reduceSub, z_set, z_set2, z_kil, List.set_cons_zero, List.set_cons_succ, List.take_succ_cons, List.take_zero, List.drop_succ_cons, List.drop_zero, List.reverse_cons, List.reverse_nil, List.nil_append, List.cons_append, List.getD_cons_succ, List.getD_cons_zero, List.getD_nil, List.length_cons, List.length_nil, List.map_cons, List.map_nil, List.sum_cons, List.sum_nil, Nat.reduceAdd, Nat.reduceLeDiff, Value.category, Option.toList, true_or, or_true, z_ua, ↓reduceIte, Nat.reduceEqDiff, eq_self, not_true_eq_false, not_false_eq_true, false_implies, true_implies, Classical.not_not, Nat.le_refl, Nat.zero_le, sK43 hS, g4]
    try dsimp only
    refine ⟨fun _ => ?_, fun q => absurd (nI_le (Nat.le_refl _) (by omega)) q⟩
    refine zW_ok hj B2_67 67 _ _ _ _ _ b2_67 ?_
    simp only [B2_67, zW, z_wp1, z_ld, z_f0, z_f1, z_f2, z_f3, List.getElem?_cons_zero, List.getElem?_cons_succ, true_and, and_true, Int32.reduceOfInt, z_i10, z_i01, Int32.reduceLT, Int32.reduceLE, Int32.reduceAdd, Int32.reduceSub, z_set, z_set2, z_kil, List.set_cons_zero, List.set_cons_succ, List.take_succ_cons, List.take_zero, List.drop_succ_cons, List.drop_zero, List.reverse_cons, List.reverse_nil, List.nil_append, List.cons_append, List.getD_cons_succ, List.getD_cons_zero, List.getD_nil, List.length_cons, List.length_nil, List.map_cons, List.map_nil, List.sum_cons, List.sum_nil, Nat.reduceAdd, Nat.reduceLeDiff, Value.category, Option.toList, true_or, or_true, z_ua, ↓reduceIte, Nat.reduceEqDiff, eq_self, not_true_eq_false, not_false_eq_true, false_implies, true_implies, Classical.not_not, Nat.le_refl, Nat.zero_le]
    try dsimp only
    exact hQ _ _ ⟨rfl, I', rfl, o1, o2⟩
  | k + 1, p, I', x2, hk, o1, o2 => by
    have g4 : I' 43 4 = nI cn := by rw [o1 43 (by decide)]; exact h4
    have ep : (nI p).toNatClampNeg = p := nI_clamp (by omega)
    have vp : vp_in (nI p) 8 := vp_in_nI (by omega) (by omega)
    refine zW_ok hj B2_2 2 _ _ _ _ _ b2_2 ?_
    simp only [B2_2, zW, z_wp1, z_ld, z_f0, z_f1, z_f2, z_f3, List.getElem?_cons_zero, List.getElem?_cons_succ, true_and, and_true, Int32.reduceOfInt, z_i10, z_i01, Int32.reduceLT, Int32.reduceLE, Int32.reduceAdd, Int32.reduceSub, z_set, z_set2, z_kil, List.set_cons_zero, List.set_cons_succ, List.take_succ_cons, List.take_zero, List.drop_succ_cons, List.drop_zero, List.reverse_cons, List.reverse_nil, List.nil_append, List.cons_append, List.getD_cons_succ, List.getD_cons_zero, List.getD_nil, List.length_cons, List.length_nil, List.map_cons, List.map_nil, List.sum_cons, List.sum_nil, Nat.reduceAdd, Nat.reduceLeDiff, Value.category, Option.toList, true_or, or_true, z_ua, ↓reduceIte, Nat.reduceEqDiff, eq_self, not_true_eq_false, not_false_eq_true, false_implies, true_implies, Classical.not_not, Nat.le_refl, Nat.zero_le, sK43 hS, g4, sG43_7 hS, sK46 hS, sL46 hS, ep, vp]
    try dsimp only
    refine ⟨fun q => absurd q (nI_ge (by omega) (by omega)), fun _ => ?_⟩
    refine c2_in (I := z_u I' 46 p 0) hS hj (show p < 8 by omega) (fun I2 y a1 a2 a3 => ?_) p 0 _ (by omega) (fun _ _ => rfl) (fun _ _ => rfl) (by rw [z_u_at, if_pos rfl]; rfl)
    rw [z_u_ne (show (45 : Nat) ≠ 46 by decide), o1 45 (by decide)] at a3
    refine zW_ok hj B2_61 61 _ _ _ _ _ b2_61 ?_
    simp only [B2_61, zW, z_wp1, z_ld, z_f0, z_f1, z_f2, z_f3, List.getElem?_cons_zero, List.getElem?_cons_succ, true_and, and_true, Int32.reduceOfInt, z_i10, z_i01, Int32.reduceLT, Int32.reduceLE, Int32.reduceAdd, Int32.reduceSub, z_set, z_set2, z_kil, List.set_cons_zero, List.set_cons_succ, List.take_succ_cons, List.take_zero, List.drop_succ_cons, List.drop_zero, List.reverse_cons, List.reverse_nil, List.nil_append, List.cons_append, List.getD_cons_succ, List.getD_cons_zero, List.getD_nil, List.length_cons, List.length_nil, List.map_cons, List.map_nil, List.sum_cons, List.sum_nil, Nat.reduceAdd, Nat.reduceLeDiff, Value.category, Option.toList, true_or, or_true, z_ua, ↓reduceIte, Nat.reduceEqDiff, eq_self, not_true_eq_false, not_false_eq_true, false_implies, true_implies, Classical.not_not, Nat.le_refl, Nat.zero_le, nI_1]
    try dsimp only
    refine c2_out hS hj h4 hc hQ k (p + 1) I2 _ (by omega) (fun q hq => by rw [a1 q hq, z_u_ne hq]; exact o1 q hq) (fun g hg => ?_)
    by_cases z : g = p
    · rw [z]; exact a3
    · rw [a2 g z, z_u_at, if_neg z]; exact o2 g (by omega)
/-- listMates -/
theorem c2 (hS : SS K L G) (h4 : I 43 4 = nI cn) (hc : cn ≤ 8) : z_Ctr l 0 2 [.ref 43] (n, K, L, I, J, G) 0 0 (fun r h' => r = none ∧ ∃ I', h' = (n, K, L, I', J, G) ∧ (∀ q, q ≠ 46 → I' q = I q) ∧ ∀ p, p < cn → I' 46 p = x_lm (I 45) p p) := by
  refine z_ctr (by decide) (by decide +kernel) (Nat.le_of_ble_eq_true rfl) (by decide +kernel) (fun X hl hj hd hm hs hsc hQ => ?_)
  show zV X 0 [some (.ref 43), none, none] [] _ 0 0
  refine zW_ok hj B2_0 0 _ _ _ _ _ b2_0 ?_
  simp only [B2_0, zW, z_wp1, z_ld, z_f0, z_f1, z_f2, z_f3, List.getElem?_cons_zero, List.getElem?_cons_succ, true_and, and_true, Int32.reduceOfInt, z_i10, z_i01, Int32.reduceLT, Int32.reduceLE, Int32.reduceAdd, Int32.reduceSub, z_set, z_set2, z_kil, List.set_cons_zero, List.set_cons_succ, List.take_succ_cons, List.take_zero, List.drop_succ_cons, List.drop_zero, List.reverse_cons, List.reverse_nil, List.nil_append, List.cons_append, List.getD_cons_succ, List.getD_cons_zero, List.getD_nil, List.length_cons, List.length_nil, List.map_cons, List.map_nil, List.sum_cons, List.sum_nil, Nat.reduceAdd, Nat.reduceLeDiff, Value.category, Option.toList, true_or, or_true, z_ua, ↓reduceIte, Nat.reduceEqDiff, eq_self, not_true_eq_false, not_false_eq_true, false_implies, true_implies, Classical.not_not, Nat.le_refl, Nat.zero_le]
  try dsimp only
  exact c2_out hS hj h4 hc hQ cn 0 I none (by omega) (fun _ _ => rfl) (fun g hg => by omega)
theorem c3_in {X : zX} (hS : SS K L G) (hj : X.2.1 = 3) (h4 : I 43 4 = nI cn) (hc : cn ≤ 8) {i : Nat} (kk : ∀ x3, zV X 46 [some (.ref 43), some (.int (nI i)), some (.int (x_ha (I 45) (fun p => p) i cn)), x3] [] (n, K, L, I, J, G) 0 0) : ∀ k p : Nat, p + k = cn → zV X 17 [some (.ref 43), some (.int (nI i)), some (.int (x_ha (I 45) (fun p => p) i p)), some (.int (nI p))] [] (n, K, L, I, J, G) 0 0
  | 0, p, hk => by
    have e : p = cn := by omega
    subst e
    refine zW_ok hj B3_17 17 _ _ _ _ _ b3_17 ?_
    simp only [B3_17, zW, z_wp1, z_ld, z_f0, z_f1, z_f2, z_f3, List.getElem?_cons_zero, List.getElem?_cons_succ, true_and, and_true, Int32.reduceOfInt, z_i10, z_i01, Int32.reduceLT, Int32.reduceLE, Int32.reduceAdd, Int32.reduceSub, z_set, z_set2, z_kil, List.set_cons_zero, List.set_cons_succ, List.take_succ_cons, List.take_zero, List.drop_succ_cons, List.drop_zero, List.reverse_cons, List.reverse_nil, List.nil_append, List.cons_append, List.getD_cons_succ, List.getD_cons_zero, List.getD_nil, List.length_cons, List.length_nil, List.map_cons, List.map_nil, List.sum_cons, List.sum_nil, Nat.reduceAdd, Nat.reduceLeDiff, Value.category, Option.toList, true_or, or_true, z_ua, ↓reduceIte, Nat.reduceEqDiff, eq_self, not_true_eq_false, not_false_eq_true, false_implies, true_implies, Classical.not_not, Nat.le_refl, Nat.zero_le, sK43 hS, h4]
    try dsimp only
    exact ⟨fun _ => kk _, fun q => absurd (nI_le (Nat.le_refl _) (by omega)) q⟩
  | k + 1, p, hk => by
    have ep : (nI p).toNatClampNeg = p := nI_clamp (by omega)
    have vp : vp_in (nI p) 8 := vp_in_nI (by omega) (by omega)
    have ih := c3_in hS hj h4 hc kk k (p + 1) (by omega)
    refine zW_ok hj B3_17 17 _ _ _ _ _ b3_17 ?_
    simp only [B3_17, zW, z_wp1, z_ld, z_f0, z_f1, z_f2, z_f3, List.getElem?_cons_zero, List.getElem?_cons_succ, true_and, and_true, Int32.reduceOfInt, z_i10, z_i01, Int32.reduceLT, Int32.reduceLE, Int32.reduceAdd, Int32.reduceSub, z_set, z_set2, z_kil, List.set_cons_zero, List.set_cons_succ, List.take_succ_cons, List.take_zero, List.drop_succ_cons, List.drop_zero, List.reverse_cons, List.reverse_nil, List.nil_append, List.cons_append, List.getD_cons_succ, List.getD_cons_zero, List.getD_nil, List.length_cons, List.length_nil, List.map_cons, List.map_nil, List.sum_cons, List.sum_nil, Nat.reduceAdd, Nat.reduceLeDiff, Value.category, Option.toList, true_or, or_true, z_ua, ↓reduceIte, Nat.reduceEqDiff, eq_self, not_true_eq_false, not_false_eq_true, false_implies, true_implies, Classical.not_not, Nat.le_refl, Nat.zero_le, sK43 hS, h4, sG43_6 hS, sK45 hS, sL45 hS, ep, vp, nI_1]
    try dsimp only
    exact ⟨fun q => absurd q (nI_ge (by omega) (by omega)), fun _ => ih⟩
/-- marks that count -/
def x_cd (mo : Nat → Int32) (cn i : Nat) : Bool := decide (1 < s_rk (zb (x_ha mo (fun p => p) i cn)) 16 ∧ s_rk (zb (x_ha mo (fun p => p) i cn)) 16 < cn)
/-- held marks, listed -/
def x_hl (I : Nat → Nat → Int32) (mo : Nat → Int32) (cn m : Nat) : Prop := ∀ i, i < m → x_cd mo cn i = true → I 47 (s_rk (x_cd mo cn) i) = x_ha mo (fun p => p) i cn ∧ I 48 (s_rk (x_cd mo cn) i) = 0 ∧ I 49 (s_rk (x_cd mo cn) i) = 0 ∧ I 50 (s_rk (x_cd mo cn) i) = nI (s_rk (zb (x_ha mo (fun p => p) i cn)) 16)
theorem c3_out {X : zX} (hS : SS K L G) (hj : X.2.1 = 3) (hd : X.2.2.1 = 1) (hm : X.2.2.2.1 = 0) (hs : X.2.2.2.2.1 = 0) (h4 : I 43 4 = nI cn) (hc : cn ≤ 8) (hQ : ∀ r h', (r = none ∧ ∃ I', h' = (n, K, L, I', J, G) ∧ (∀ q, q ≠ 43 → q ≠ 47 → q ≠ 48 → q ≠ 49 → q ≠ 50 → I' q = I q) ∧ (∀ k, k ≠ 9 → I' 43 k = I 43 k) ∧ I' 43 9 = nI (s_rk (x_cd (I 45) cn) 12) ∧ x_hl I' (I 45) cn 12) → X.2.2.2.2.2.2 r h') : ∀ (k i : Nat) (I' : Nat → Nat → Int32) (x2 x3 : Option Value), i + k = 12 → (∀ q, q ≠ 43 → q ≠ 47 → q ≠ 48 → q ≠ 49 → q ≠ 50 → I' q = I q) → (∀ k, k ≠ 9 → I' 43 k = I 43 k) → I' 43 9 = nI (s_rk (x_cd (I 45) cn) i) → x_hl I' (I 45) cn i → zV X 7 [some (.ref 43), some (.int (nI i)), x2, x3] [] (n, K, L, I', J, G) 0 0
  | 0, i, I', x2, x3, hk, o1, o2, o3, o4 => by
    have e : i = 12 := by omega
    subst e
    have n12 : (12 : Int32) ≤ nI 12 := by decide
    refine zW_ok hj B3_7 7 _ _ _ _ _ b3_7 ?_
    simp only [B3_7, zW, z_wp1, z_ld, z_f0, z_f1, z_f2, z_f3, List.getElem?_cons_zero, List.getElem?_cons_succ, true_and, and_true, Int32.reduceOfInt, z_i10, z_i01, Int32.reduceLT, Int32.reduceLE, Int32.reduceAdd, Int32.reduceSub, z_set, z_set2, z_kil, List.set_cons_zero, List.set_cons_succ, List.take_succ_cons, List.take_zero, List.drop_succ_cons, List.drop_zero, List.reverse_cons, List.reverse_nil, List.nil_append, List.cons_append, List.getD_cons_succ, List.getD_cons_zero, List.getD_nil, List.length_cons, List.length_nil, List.map_cons, List.map_nil, List.sum_cons, List.sum_nil, Nat.reduceAdd, Nat.reduceLeDiff, Value.category, Option.toList, true_or, or_true, z_ua, ↓reduceIte, Nat.reduceEqDiff, eq_self, not_true_eq_false, not_false_eq_true, false_implies, true_implies, Classical.not_not, Nat.le_refl, Nat.zero_le, n12]
    try dsimp only
    refine zW_ok hj B3_120 120 _ _ _ _ _ b3_120 ?_
    simp only [B3_120, zW, z_wp1, z_ld, z_f0, z_f1, z_f2, z_f3, List.getElem?_cons_zero, List.getElem?_cons_succ, true_and, and_true, Int32.reduceOfInt, z_i10, z_i01, Int32.reduceLT, Int32.reduceLE, Int32.reduceAdd, Int32.reduceSub, z_set, z_set2, z_kil, List.set_cons_zero, List.set_cons_succ, List.take_succ_cons, List.take_zero, List.drop_succ_cons, List.drop_zero, List.reverse_cons, List.reverse_nil, List.nil_append, List.cons_append, List.getD_cons_succ, List.getD_cons_zero, List.getD_nil, List.length_cons, List.length_nil, List.map_cons, List.map_nil, List.sum_cons, List.sum_nil, Nat.reduceAdd, Nat.reduceLeDiff, Value.category, Option.toList, true_or, or_true, z_ua, ↓reduceIte, Nat.reduceEqDiff, eq_self, not_true_eq_false, not_false_eq_true, false_implies, true_implies, Classical.not_not, Nat.le_refl, Nat.zero_le]
    try dsimp only
    exact hQ _ _ ⟨rfl, I', rfl, o1, o2, o3, o4⟩
  | k + 1, i, I', x2, x3, hk, o1, o2, o3, o4 => by
    have n12 : ¬ (12 : Int32) ≤ nI i := fun q => by
      have := (nI_leI (a := 12) (b := i) (by omega) (by omega)).mp q
      omega
    have g4 : I' 43 4 = nI cn := by rw [o2 4 (by decide)]; exact h4
    have e45 : I' 45 = I 45 := o1 45 (by decide) (by decide) (by decide) (by decide) (by decide)
    have ih := c3_out hS hj hd hm hs h4 hc hQ k (i + 1)
    have hsn := s_rk_n (x_cd (I 45) cn) i
    generalize hv : x_ha (I 45) (fun p => p) i cn = v at *
    have hbits : ∀ q, zb v q = true → q < cn := fun q hq => by
      rw [← hv, x_ha_b (by omega) (by omega)] at hq
      exact hq.1
    obtain ⟨kk, hkk, ekk⟩ := zb_toN (s := v) (N := 16) (by omega) (fun q hq => by
      cases e : zb v q with
      | false => rfl
      | true => have := hbits q e; omega)
    have hr16 := s_rk_n (zb v) 16
    have ecd : x_cd (I 45) cn i = decide (1 < s_rk (zb v) 16 ∧ s_rk (zb v) 16 < cn) := by rw [x_cd, hv]
    have same : x_cd (I 45) cn i = false → ∀ x2 x3 : Option Value, zV X 114 [some (.ref 43), some (.int (nI i)), x2, x3] [] (n, K, L, I', J, G) 0 0 := by
      intro hf x2 x3
      refine zW_ok hj B3_114 114 _ _ _ _ _ b3_114 ?_
      simp only [B3_114, zW, z_wp1, z_ld, z_f0, z_f1, z_f2, z_f3, List.getElem?_cons_zero, List.getElem?_cons_succ, true_and, and_true, Int32.reduceOfInt, z_i10, z_i01, Int32.reduceLT, Int32.reduceLE, Int32.reduceAdd, Int32.reduceSub, z_set, z_set2, z_kil, List.set_cons_zero, List.set_cons_succ, List.take_succ_cons, List.take_zero, List.drop_succ_cons, List.drop_zero, List.reverse_cons, List.reverse_nil, List.nil_append, List.cons_append, List.getD_cons_succ, List.getD_cons_zero, List.getD_nil, List.length_cons, List.length_nil, List.map_cons, List.map_nil, List.sum_cons, List.sum_nil, Nat.reduceAdd, Nat.reduceLeDiff, Value.category, Option.toList, true_or, or_true, z_ua, ↓reduceIte, Nat.reduceEqDiff, eq_self, not_true_eq_false, not_false_eq_true, false_implies, true_implies, Classical.not_not, Nat.le_refl, Nat.zero_le, nI_1]
      try dsimp only
      have er : s_rk (x_cd (I 45) cn) (i + 1) = s_rk (x_cd (I 45) cn) i := by rw [s_rk, hf]; rfl
      refine ih I' _ _ (by omega) o1 o2 (by rw [er]; exact o3) (fun g hg hcd => o4 g ?_ hcd)
      rcases Nat.lt_or_ge g i with z | z
      · exact z
      · rw [show g = i by omega, hf] at hcd; cases hcd
    refine zW_ok hj B3_7 7 _ _ _ _ _ b3_7 ?_
    simp only [B3_7, zW, z_wp1, z_ld, z_f0, z_f1, z_f2, z_f3, List.getElem?_cons_zero, List.getElem?_cons_succ, true_and, and_true, Int32.reduceOfInt, z_i10, z_i01, Int32.reduceLT, Int32.reduceLE, Int32.reduceAdd, Int32.reduceSub, z_set, z_set2, z_kil, List.set_cons_zero, List.set_cons_succ, List.take_succ_cons, List.take_zero, List.drop_succ_cons, List.drop_zero, List.reverse_cons, List.reverse_nil, List.nil_append, List.cons_append, List.getD_cons_succ, List.getD_cons_zero, List.getD_nil, List.length_cons, List.length_nil, List.map_cons, List.map_nil, List.sum_cons, List.sum_nil, Nat.reduceAdd, Nat.reduceLeDiff, Value.category, Option.toList, true_or, or_true, z_ua, ↓reduceIte, Nat.reduceEqDiff, eq_self, not_true_eq_false, not_false_eq_true, false_implies, true_implies, Classical.not_not, Nat.le_refl, Nat.zero_le, n12]
    try dsimp only
    refine (c3_in (I := I') (i := i) hS hj g4 hc (fun y => ?_) cn 0 (by omega)).weak (by simp only [z_le, nI_0, x_ha]; simp)
    rw [e45, hv]
    have l1 : nI (s_rk (zb v) 16) ≤ 1 ↔ s_rk (zb v) 16 ≤ 1 := nI_leI (b := 1) (by omega) (by omega)
    have l2 : nI cn ≤ nI (s_rk (zb v) 16) ↔ cn ≤ s_rk (zb v) 16 := nI_leI (by omega) (by omega)
    have cb := c243 (l := X.1) (n := n) (K := K) (L := L) (I := I') (J := J) (G := G) hkk
    rw [← ekk] at cb
    have ea : (nI (s_rk (x_cd (I 45) cn) i)).toNatClampNeg = s_rk (x_cd (I 45) cn) i := nI_clamp (by omega)
    have va : vp_in (nI (s_rk (x_cd (I 45) cn) i)) 12 := vp_in_nI (by omega) (by omega)
    have va2 : vp_in (nI (s_rk (x_cd (I 45) cn) i)) 108 := vp_in_nI (by omega) (by omega)
    refine zW_ok hj B3_46 46 _ _ _ _ _ b3_46 ?_
    simp only [B3_46, zW, z_wp1, z_ld, z_f0, z_f1, z_f2, z_f3, List.getElem?_cons_zero, List.getElem?_cons_succ, true_and, and_true, Int32.reduceOfInt, z_i10, z_i01, Int32.reduceLT, Int32.reduceLE, Int32.reduceAdd, Int32.reduceSub, z_set, z_set2, z_kil, List.set_cons_zero, List.set_cons_succ, List.take_succ_cons, List.take_zero, List.drop_succ_cons, List.drop_zero, List.reverse_cons, List.reverse_nil, List.nil_append, List.cons_append, List.getD_cons_succ, List.getD_cons_zero, List.getD_nil, List.length_cons, List.length_nil, List.map_cons, List.map_nil, List.sum_cons, List.sum_nil, Nat.reduceAdd, Nat.reduceLeDiff, Value.category, Option.toList, true_or, or_true, z_ua, ↓reduceIte, Nat.reduceEqDiff, eq_self, not_true_eq_false, not_false_eq_true, false_implies, true_implies, Classical.not_not, Nat.le_refl, Nat.zero_le]
    try dsimp only
    refine z_callD (cb) (by omega) (by omega) (by omega) (Nat.le_of_ble_eq_true rfl) ?_
    try simp only [zW, z_wp1, z_ld, z_f0, z_f1, z_f2, z_f3, List.getElem?_cons_zero, List.getElem?_cons_succ, true_and, and_true, Int32.reduceOfInt, z_i10, z_i01, Int32.reduceLT, Int32.reduceLE, Int32.reduceAdd, Int32.reduceSub, z_set, z_set2, z_kil, List.set_cons_zero, List.set_cons_succ, List.take_succ_cons, List.take_zero, List.drop_succ_cons, List.drop_zero, List.reverse_cons, List.reverse_nil, List.nil_append, List.cons_append, List.getD_cons_succ, List.getD_cons_zero, List.getD_nil, List.length_cons, List.length_nil, List.map_cons, List.map_nil, List.sum_cons, List.sum_nil, Nat.reduceAdd, Nat.reduceLeDiff, Value.category, Option.toList, true_or, or_true, z_ua, ↓reduceIte, Nat.reduceEqDiff, eq_self, not_true_eq_false, not_false_eq_true, false_implies, true_implies, Classical.not_not, Nat.le_refl, Nat.zero_le, sK43 hS, l1, l2, g4]
    try dsimp only
    refine ⟨fun h => same (by rw [ecd]; simp; omega) _ _, fun h1 => ⟨fun h => same (by rw [ecd]; simp; omega) _ _, fun h2 => ?_⟩⟩
    have hct : x_cd (I 45) cn i = true := by rw [ecd]; simp; omega
    have er : s_rk (x_cd (I 45) cn) (i + 1) = s_rk (x_cd (I 45) cn) i + 1 := by rw [s_rk, hct]; rfl
    simp only [zW, z_wp1, z_ld, z_f0, z_f1, z_f2, z_f3, List.getElem?_cons_zero, List.getElem?_cons_succ, true_and, and_true, Int32.reduceOfInt, z_i10, z_i01, Int32.reduceLT, Int32.reduceLE, Int32.reduceAdd, Int32.reduceSub, z_set, z_set2, z_kil, List.set_cons_zero, List.set_cons_succ, List.take_succ_cons, List.take_zero, List.drop_succ_cons, List.drop_zero, List.reverse_cons, List.reverse_nil, List.nil_append, List.cons_append, List.getD_cons_succ, List.getD_cons_zero, List.getD_nil, List.length_cons, List.length_nil, List.map_cons, List.map_nil, List.sum_cons, List.sum_nil, Nat.reduceAdd, Nat.reduceLeDiff, Value.category, Option.toList, true_or, or_true, z_ua, ↓reduceIte, Nat.reduceEqDiff, eq_self, not_true_eq_false, not_false_eq_true, false_implies, true_implies, Classical.not_not, Nat.le_refl, Nat.zero_le, z_hI, sK43 hS, sG43_8 hS, sK47 hS, sL47 hS, sG43_10 hS, sK48 hS, sL48 hS, sG43_11 hS, sK49 hS, sL49 hS, sG43_12 hS, sK50 hS, sL50 hS, o3, va, va2, nI_1]
    try dsimp only
    rw [ea]
    refine zW_ok hj B3_114 114 _ _ _ _ _ b3_114 ?_
    simp only [B3_114, zW, z_wp1, z_ld, z_f0, z_f1, z_f2, z_f3, List.getElem?_cons_zero, List.getElem?_cons_succ, true_and, and_true, Int32.reduceOfInt, z_i10, z_i01, Int32.reduceLT, Int32.reduceLE, Int32.reduceAdd, Int32.reduceSub, z_set, z_set2, z_kil, List.set_cons_zero, List.set_cons_succ, List.take_succ_cons, List.take_zero, List.drop_succ_cons, List.drop_zero, List.reverse_cons, List.reverse_nil, List.nil_append, List.cons_append, List.getD_cons_succ, List.getD_cons_zero, List.getD_nil, List.length_cons, List.length_nil, List.map_cons, List.map_nil, List.sum_cons, List.sum_nil, Nat.reduceAdd, Nat.reduceLeDiff, Value.category, Option.toList, true_or, or_true, z_ua, ↓reduceIte, Nat.reduceEqDiff, eq_self, not_true_eq_false, not_false_eq_true, false_implies, true_implies, Classical.not_not, Nat.le_refl, Nat.zero_le, nI_1]
    try dsimp only
    have ne : ∀ g, g < i → x_cd (I 45) cn g = true → ¬ s_rk (x_cd (I 45) cn) g = s_rk (x_cd (I 45) cn) i := fun g hg hcd => by
      have := s_rk_lt hg hcd
      omega
    refine ih _ _ _ (by omega) (fun q a b c d e => by rw [z_u_ne a, z_u_ne e, z_u_ne d, z_u_ne c, z_u_ne b]; exact o1 q a b c d e) (fun k hk => by rw [z_u_at, if_neg hk, z_u_ne (by decide), z_u_ne (by decide), z_u_ne (by decide), z_u_ne (by decide)]; exact o2 k hk) (by rw [z_u_at, if_pos rfl, er]) (fun g hg hcd => ?_)
    have f47 : ∀ y, z_u (z_u (z_u (z_u (z_u I' 47 (s_rk (x_cd (I 45) cn) i) v) 48 (s_rk (x_cd (I 45) cn) i) 0) 49 (s_rk (x_cd (I 45) cn) i) 0) 50 (s_rk (x_cd (I 45) cn) i) (nI (s_rk (zb v) 16))) 43 9 (nI (s_rk (x_cd (I 45) cn) i + 1)) 47 y = if y = s_rk (x_cd (I 45) cn) i then v else I' 47 y := fun y => by
      rw [z_u_ne (by decide), z_u_ne (by decide), z_u_ne (by decide), z_u_ne (by decide), z_u_at]
    have f48 : ∀ y, z_u (z_u (z_u (z_u (z_u I' 47 (s_rk (x_cd (I 45) cn) i) v) 48 (s_rk (x_cd (I 45) cn) i) 0) 49 (s_rk (x_cd (I 45) cn) i) 0) 50 (s_rk (x_cd (I 45) cn) i) (nI (s_rk (zb v) 16))) 43 9 (nI (s_rk (x_cd (I 45) cn) i + 1)) 48 y = if y = s_rk (x_cd (I 45) cn) i then 0 else I' 48 y := fun y => by
      rw [z_u_ne (by decide), z_u_ne (by decide), z_u_ne (by decide), z_u_at, z_u_ne (by decide)]
    have f49 : ∀ y, z_u (z_u (z_u (z_u (z_u I' 47 (s_rk (x_cd (I 45) cn) i) v) 48 (s_rk (x_cd (I 45) cn) i) 0) 49 (s_rk (x_cd (I 45) cn) i) 0) 50 (s_rk (x_cd (I 45) cn) i) (nI (s_rk (zb v) 16))) 43 9 (nI (s_rk (x_cd (I 45) cn) i + 1)) 49 y = if y = s_rk (x_cd (I 45) cn) i then 0 else I' 49 y := fun y => by
      rw [z_u_ne (by decide), z_u_ne (by decide), z_u_at, z_u_ne (by decide), z_u_ne (by decide)]
    have f50 : ∀ y, z_u (z_u (z_u (z_u (z_u I' 47 (s_rk (x_cd (I 45) cn) i) v) 48 (s_rk (x_cd (I 45) cn) i) 0) 49 (s_rk (x_cd (I 45) cn) i) 0) 50 (s_rk (x_cd (I 45) cn) i) (nI (s_rk (zb v) 16))) 43 9 (nI (s_rk (x_cd (I 45) cn) i + 1)) 50 y = if y = s_rk (x_cd (I 45) cn) i then nI (s_rk (zb v) 16) else I' 50 y := fun y => by
      rw [z_u_ne (by decide), z_u_at, z_u_ne (by decide), z_u_ne (by decide), z_u_ne (by decide)]
    rw [f47, f48, f49, f50]
    by_cases z : g = i
    · subst z
      rw [if_pos rfl, if_pos rfl, if_pos rfl, if_pos rfl, hv]
      exact ⟨rfl, rfl, rfl, rfl⟩
    · rw [if_neg (ne g (by omega) hcd), if_neg (ne g (by omega) hcd), if_neg (ne g (by omega) hcd), if_neg (ne g (by omega) hcd)]
      exact o4 g (by omega) hcd
/-- listHeld -/
theorem c3 (hS : SS K L G) (h4 : I 43 4 = nI cn) (hc : cn ≤ 8) : z_Ctr l 1 3 [.ref 43] (n, K, L, I, J, G) 0 0 (fun r h' => r = none ∧ ∃ I', h' = (n, K, L, I', J, G) ∧ (∀ q, q ≠ 43 → q ≠ 47 → q ≠ 48 → q ≠ 49 → q ≠ 50 → I' q = I q) ∧ (∀ k, k ≠ 9 → I' 43 k = I 43 k) ∧ I' 43 9 = nI (s_rk (x_cd (I 45) cn) 12) ∧ x_hl I' (I 45) cn 12) := by
  refine z_ctr (by decide) (by decide +kernel) (Nat.le_of_ble_eq_true rfl) (by decide +kernel) (fun X hl hj hd hm hs hsc hQ => ?_)
  show zV X 0 [some (.ref 43), none, none, none] [] _ 0 0
  refine zW_ok hj B3_0 0 _ _ _ _ _ b3_0 ?_
  simp only [B3_0, zW, z_wp1, z_ld, z_f0, z_f1, z_f2, z_f3, List.getElem?_cons_zero, List.getElem?_cons_succ, true_and, and_true, Int32.reduceOfInt, z_i10, z_i01, Int32.reduceLT, Int32.reduceLE, Int32.reduceAdd, Int32.reduceSub, z_set, z_set2, z_kil, List.set_cons_zero, List.set_cons_succ, List.take_succ_cons, List.take_zero, List.drop_succ_cons, List.drop_zero, List.reverse_cons, List.reverse_nil, List.nil_append, List.cons_append, List.getD_cons_succ, List.getD_cons_zero, List.getD_nil, List.length_cons, List.length_nil, List.map_cons, List.map_nil, List.sum_cons, List.sum_nil, Nat.reduceAdd, Nat.reduceLeDiff, Value.category, Option.toList, true_or, or_true, z_ua, ↓reduceIte, Nat.reduceEqDiff, eq_self, not_true_eq_false, not_false_eq_true, false_implies, true_implies, Classical.not_not, Nat.le_refl, Nat.zero_le, sK43 hS]
  try dsimp only
  refine c3_out (I := I) hS hj hd hm hs h4 hc hQ 12 0 _ none none (by omega) (fun q a _ _ _ _ => by rw [z_u_ne a]) (fun k hk => by rw [z_u_at, if_neg hk]) (by rw [z_u_at, if_pos rfl]; rfl) (fun g hg => by omega)
/-- bestAt -/
theorem c8 (hS : SS K L G) (h4 : I 43 4 = nI cn) (hc : cn ≤ 8) {be : Nat → Nat} (hbe : ∀ i, i < cn → I 52 i = nI (be i) ∧ be i < 8) (i b : Int32) : z_D l 0 8 [.ref 43, .int i, .int b] (n, K, L, I, J, G) (some (.int (if ¬ b = 0 ∧ 0 ≤ i ∧ i < nI cn then I 44 (be i.toNatClampNeg) else -1))) (n, K, L, I, J, G) := by
  refine z_ctr (by decide) (by decide +kernel) (Nat.le_of_ble_eq_true rfl) (by decide +kernel) (fun X hl hj hd hm hs hsc hQ => ?_)
  show zV X 0 [some (.ref 43), some (.int i), some (.int b)] [] _ 0 0
  have no : ¬ (¬ b = 0 ∧ 0 ≤ i ∧ i < nI cn) → zV X 30 [some (.ref 43), some (.int i), some (.int b)] [] (n, K, L, I, J, G) 0 0 := fun h => by
    refine zW_ok hj B8_30 30 _ _ _ _ _ b8_30 ?_
    simp only [B8_30, zW, z_wp1, z_ld, z_f0, z_f1, z_f2, z_f3, List.getElem?_cons_zero, List.getElem?_cons_succ, true_and, and_true, Int32.reduceOfInt, z_i10, z_i01, Int32.reduceLT, Int32.reduceLE, Int32.reduceAdd, Int32.reduceSub, z_set, z_set2, z_kil, List.set_cons_zero, List.set_cons_succ, List.take_succ_cons, List.take_zero, List.drop_succ_cons, List.drop_zero, List.reverse_cons, List.reverse_nil, List.nil_append, List.cons_append, List.getD_cons_succ, List.getD_cons_zero, List.getD_nil, List.length_cons, List.length_nil, List.map_cons, List.map_nil, List.sum_cons, List.sum_nil, Nat.reduceAdd, Nat.reduceLeDiff, Value.category, Option.toList, true_or, or_true, z_ua, ↓reduceIte, Nat.reduceEqDiff, eq_self, not_true_eq_false, not_false_eq_true, false_implies, true_implies, Classical.not_not, Nat.le_refl, Nat.zero_le]
    try dsimp only
    refine zW_ok hj B8_31 31 _ _ _ _ _ b8_31 ?_
    simp only [B8_31, zW, z_wp1, z_ld, z_f0, z_f1, z_f2, z_f3, List.getElem?_cons_zero, List.getElem?_cons_succ, true_and, and_true, Int32.reduceOfInt, z_i10, z_i01, Int32.reduceLT, Int32.reduceLE, Int32.reduceAdd, Int32.reduceSub, z_set, z_set2, z_kil, List.set_cons_zero, List.set_cons_succ, List.take_succ_cons, List.take_zero, List.drop_succ_cons, List.drop_zero, List.reverse_cons, List.reverse_nil, List.nil_append, List.cons_append, List.getD_cons_succ, List.getD_cons_zero, List.getD_nil, List.length_cons, List.length_nil, List.map_cons, List.map_nil, List.sum_cons, List.sum_nil, Nat.reduceAdd, Nat.reduceLeDiff, Value.category, Option.toList, true_or, or_true, z_ua, ↓reduceIte, Nat.reduceEqDiff, eq_self, not_true_eq_false, not_false_eq_true, false_implies, true_implies, Classical.not_not, Nat.le_refl, Nat.zero_le]
    try dsimp only
    exact hQ _ _ ⟨by rw [if_neg h], rfl⟩
  have yes : (¬ b = 0 ∧ 0 ≤ i ∧ i < nI cn) → vp_in i 8 ∧ I 52 i.toNatClampNeg = nI (be i.toNatClampNeg) ∧ (nI (be i.toNatClampNeg)).toNatClampNeg = be i.toNatClampNeg ∧ vp_in (nI (be i.toNatClampNeg)) 8 := fun h => by
    obtain ⟨k, hk, ek⟩ := nI_of (x := i) (Int32.not_lt.mpr h.2.1)
    have h3 := h.2.2
    rw [ek] at h3 ⊢
    have h4 := (nI_ltI (by omega) (by omega)).mp h3
    rw [nI_clamp (by omega)]
    obtain ⟨y1, y2⟩ := hbe k h4
    exact ⟨vp_in_nI (by omega) (by omega), y1, nI_clamp (by omega), vp_in_nI (by omega) (by omega)⟩
  by_cases hc' : ¬ b = 0 ∧ 0 ≤ i ∧ i < nI cn
  · obtain ⟨y1, y2, y3, y4⟩ := yes hc'
    have n1 := hc'.1
    have n2 : ¬ i < 0 := Int32.not_lt.mpr hc'.2.1
    have n3 : ¬ nI cn ≤ i := Int32.not_le.mpr hc'.2.2
    refine zW_ok hj B8_0 0 _ _ _ _ _ b8_0 ?_
    simp only [B8_0, zW, z_wp1, z_ld, z_f0, z_f1, z_f2, z_f3, List.getElem?_cons_zero, List.getElem?_cons_succ, true_and, and_true, Int32.reduceOfInt, z_i10, z_i01, Int32.reduceLT, Int32.reduceLE, Int32.reduceAdd, Int32.reduceSub, z_set, z_set2, z_kil, List.set_cons_zero, List.set_cons_succ, List.take_succ_cons, List.take_zero, List.drop_succ_cons, List.drop_zero, List.reverse_cons, List.reverse_nil, List.nil_append, List.cons_append, List.getD_cons_succ, List.getD_cons_zero, List.getD_nil, List.length_cons, List.length_nil, List.map_cons, List.map_nil, List.sum_cons, List.sum_nil, Nat.reduceAdd, Nat.reduceLeDiff, Value.category, Option.toList, true_or, or_true, z_ua, ↓reduceIte, Nat.reduceEqDiff, eq_self, not_true_eq_false, not_false_eq_true, false_implies, true_implies, Classical.not_not, Nat.le_refl, Nat.zero_le, sK43 hS, h4, n1, n2, n3, sG43_5 hS, sK44 hS, sL44 hS, sG43_14 hS, sK52 hS, sL52 hS, y1, y2, y3, y4]
    try dsimp only
    refine zW_ok hj B8_31 31 _ _ _ _ _ b8_31 ?_
    simp only [B8_31, zW, z_wp1, z_ld, z_f0, z_f1, z_f2, z_f3, List.getElem?_cons_zero, List.getElem?_cons_succ, true_and, and_true, Int32.reduceOfInt, z_i10, z_i01, Int32.reduceLT, Int32.reduceLE, Int32.reduceAdd, Int32.reduceSub, z_set, z_set2, z_kil, List.set_cons_zero, List.set_cons_succ, List.take_succ_cons, List.take_zero, List.drop_succ_cons, List.drop_zero, List.reverse_cons, List.reverse_nil, List.nil_append, List.cons_append, List.getD_cons_succ, List.getD_cons_zero, List.getD_nil, List.length_cons, List.length_nil, List.map_cons, List.map_nil, List.sum_cons, List.sum_nil, Nat.reduceAdd, Nat.reduceLeDiff, Value.category, Option.toList, true_or, or_true, z_ua, ↓reduceIte, Nat.reduceEqDiff, eq_self, not_true_eq_false, not_false_eq_true, false_implies, true_implies, Classical.not_not, Nat.le_refl, Nat.zero_le]
    try dsimp only
    exact hQ _ _ ⟨by rw [if_pos hc'], rfl⟩
  · refine zW_ok hj B8_0 0 _ _ _ _ _ b8_0 ?_
    simp only [B8_0, zW, z_wp1, z_ld, z_f0, z_f1, z_f2, z_f3, List.getElem?_cons_zero, List.getElem?_cons_succ, true_and, and_true, Int32.reduceOfInt, z_i10, z_i01, Int32.reduceLT, Int32.reduceLE, Int32.reduceAdd, Int32.reduceSub, z_set, z_set2, z_kil, List.set_cons_zero, List.set_cons_succ, List.take_succ_cons, List.take_zero, List.drop_succ_cons, List.drop_zero, List.reverse_cons, List.reverse_nil, List.nil_append, List.cons_append, List.getD_cons_succ, List.getD_cons_zero, List.getD_nil, List.length_cons, List.length_nil, List.map_cons, List.map_nil, List.sum_cons, List.sum_nil, Nat.reduceAdd, Nat.reduceLeDiff, Value.category, Option.toList, true_or, or_true, z_ua, ↓reduceIte, Nat.reduceEqDiff, eq_self, not_true_eq_false, not_false_eq_true, false_implies, true_implies, Classical.not_not, Nat.le_refl, Nat.zero_le, sK43 hS, h4]
    try dsimp only
    refine ⟨fun _ => no hc', fun a1 => ⟨fun _ => no hc', fun a2 => ⟨fun _ => no hc', fun a3 => absurd ⟨a1, Int32.not_lt.mp a2, Int32.not_le.mp a3⟩ hc'⟩⟩⟩
end CRS9
