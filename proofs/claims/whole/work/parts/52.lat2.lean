/-! Rules from what is gathered below a set -/
theorem z_sle {s t : Nat} (h : ∀ j, t.testBit j = true → s.testBit j = true) : t ≤ s := by
  have : t &&& s = t := Nat.eq_of_testBit_eq (fun j => by
    rw [Nat.testBit_and]
    cases hs' : t.testBit j with
    | false => rfl
    | true => rw [h j hs']; rfl)
  have h4 : t &&& s ≤ s := Nat.and_le_right
  omega
theorem z_xor1 {s i N : Nat} (hN : N ≤ 16) (hs : s < 2 ^ N) (hi : i < N) (hb : zb (nI s) i = true) : ∃ t, t < s ∧ nI s ^^^ 1 <<< (nI i &&& 31) = nI t ∧ ∀ j, zb (nI t) j = (zb (nI s) j && !decide (j = i)) := by
  have hp : 2 ^ N ≤ 2 ^ 16 := Nat.pow_le_pow_right (by omega) hN
  have hbit : ∀ j, zb (nI s ^^^ 1 <<< (nI i &&& 31)) j = (zb (nI s) j && !decide (j = i)) := fun j => by
    rw [zb_xor, zb_sh1 (by omega)]
    by_cases e : j = i
    · subst e; simp [hb]
    · simp [e]
  obtain ⟨t, ht, et⟩ := zb_toN (s := nI s ^^^ 1 <<< (nI i &&& 31)) hN (fun j hj => by rw [hbit, zb_of hN hs hj]; rfl)
  rw [et] at hbit
  refine ⟨t, ?_, et, hbit⟩
  have hle : t ≤ s := z_sle (fun j hj => by
    have := hbit j
    rw [zb_nI (by omega), zb_nI (by omega), hj] at this
    simp at this
    exact this.1)
  have hne : t ≠ s := by
    intro e
    have := hbit i
    rw [e, hb] at this
    simp at this
  omega
def x_pr (cl : Int32 → Int32) (u : Nat) : Prop := ¬ cl (nI u) = nI u ∧ ∀ r ∈ m_rl nI cl u, m_kp (nI u) r
theorem m_rl_mem (cl : Int32 → Int32) (r : Int32 × Int32) : ∀ v, r ∈ m_rl nI cl v ↔ ∃ u, u < v ∧ x_pr cl u ∧ r = (nI u, cl (nI u))
  | 0 => by simp [m_rl]
  | v + 1 => by
    have ih := m_rl_mem cl r v
    rw [m_rl]
    by_cases h : ¬ cl (nI v) = nI v ∧ ∀ r ∈ m_rl nI cl v, m_kp (nI v) r
    · rw [if_pos h, List.mem_append, ih, List.mem_singleton]
      constructor
      · rintro (⟨u, a, b, c⟩ | e)
        · exact ⟨u, by omega, b, c⟩
        · exact ⟨v, by omega, h, e⟩
      · rintro ⟨u, a, b, c⟩
        by_cases e : u = v
        · subst e; exact Or.inr c
        · exact Or.inl ⟨u, by omega, b, c⟩
    · rw [if_neg h, ih]
      constructor
      · rintro ⟨u, a, b, c⟩
        exact ⟨u, by omega, b, c⟩
      · rintro ⟨u, a, b, c⟩
        by_cases e : u = v
        · subst e; exact absurd b h
        · exact ⟨u, by omega, b, c⟩
/-- what is gathered of all premises in t -/
def x_G (cl : Int32 → Int32) (t : Nat) (y : Int32) : Prop := ∀ b, zb y b = true ↔ ∃ u, u ≤ t ∧ x_pr cl u ∧ nI t &&& nI u = nI u ∧ zb (cl (nI u)) b = true
def x_B (cl : Int32 → Int32) (t : Nat) (y : Int32) : Prop := ∀ b, zb y b = true ↔ ∃ u, u < t ∧ x_pr cl u ∧ nI t &&& nI u = nI u ∧ zb (cl (nI u)) b = true
def x_gb (g : Nat → Int32) (s : Int32) : Nat → Int32
  | 0 => 0
  | i + 1 => if s >>> (nI i &&& 31) &&& 1 = 0 then x_gb g s i else x_gb g s i ||| g (s ^^^ 1 <<< (nI i &&& 31)).toNatClampNeg
theorem x_gb_bits {g : Nat → Int32} {s : Int32} (b : Nat) : ∀ i, i ≤ 16 → (zb (x_gb g s i) b = true ↔ ∃ j, j < i ∧ zb s j = true ∧ zb (g (s ^^^ 1 <<< (nI j &&& 31)).toNatClampNeg) b = true)
  | 0, _ => by simp [x_gb, zb_0]
  | i + 1, hi => by
    have ih := x_gb_bits (g := g) (s := s) b i (by omega)
    have hz := zb_get0 (s := s) (i := i) (by omega)
    rw [x_gb]
    by_cases h : zb s i = false
    · rw [if_pos (hz.mpr h), ih]
      constructor
      · rintro ⟨j, a, c, d⟩
        exact ⟨j, by omega, c, d⟩
      · rintro ⟨j, a, c, d⟩
        by_cases e : j = i
        · subst e; rw [h] at c; cases c
        · exact ⟨j, by omega, c, d⟩
    · rw [if_neg (fun q => h (hz.mp q)), zb_or, Bool.or_eq_true, ih]
      rw [Bool.not_eq_false] at h
      constructor
      · rintro (⟨j, a, c, d⟩ | d)
        · exact ⟨j, by omega, c, d⟩
        · exact ⟨i, by omega, h, d⟩
      · rintro ⟨j, a, c, d⟩
        by_cases e : j = i
        · subst e; exact Or.inr d
        · exact Or.inl ⟨j, by omega, c, d⟩
theorem x_gb_B {cl : Int32 → Int32} {g : Nat → Int32} {s N : Nat} (hN : N ≤ 16) (hs : s < 2 ^ N) (hg : ∀ t, t < s → x_G cl t (g t)) : x_B cl s (x_gb g (nI s) N) := by
  have hp : 2 ^ N ≤ 2 ^ 16 := Nat.pow_le_pow_right (by omega) hN
  intro b
  rw [x_gb_bits b N hN]
  constructor
  · rintro ⟨j, hj, hb, hd⟩
    obtain ⟨t, ht, et, hbit⟩ := z_xor1 hN hs hj hb
    rw [et, nI_clamp (by omega), hg t ht b] at hd
    obtain ⟨u, hu, hpr, hsub, hc⟩ := hd
    refine ⟨u, by omega, hpr, ?_, hc⟩
    rw [zb_sub] at hsub ⊢
    intro i hi
    have := hsub i hi
    rw [hbit] at this
    simp at this
    exact this.1
  · rintro ⟨u, hu, hpr, hsub, hc⟩
    rw [zb_sub] at hsub
    have hex : ∃ j, zb (nI s) j = true ∧ zb (nI u) j = false := by
      apply Classical.byContradiction
      intro hn
      have : s ≤ u := z_sle (fun j hj => by
        rw [← zb_nI (k := s) (by omega)] at hj
        rw [← zb_nI (k := u) (by omega)]
        cases hz : zb (nI u) j with
        | true => rfl
        | false => exact absurd ⟨j, hj, hz⟩ hn)
      omega
    obtain ⟨j, hj1, hj2⟩ := hex
    have hjN : j < N := by
      rcases Nat.lt_or_ge j N with q | q
      · exact q
      · rw [zb_of hN hs q] at hj1; cases hj1
    obtain ⟨t, ht, et, hbit⟩ := z_xor1 hN hs hjN hj1
    refine ⟨j, hjN, hj1, ?_⟩
    rw [et, nI_clamp (by omega), hg t ht b]
    have hsub2 : ∀ i, zb (nI u) i = true → zb (nI t) i = true := by
      intro i hi
      rw [hbit, hsub i hi]
      by_cases e : i = j
      · subst e; rw [hj2] at hi; cases hi
      · simp [e]
    refine ⟨u, ?_, hpr, zb_sub.mpr hsub2, hc⟩
    exact z_sle (fun i hi => by
      rw [← zb_nI (k := u) (by omega)] at hi
      rw [← zb_nI (k := t) (by omega)]
      exact hsub2 i hi)
/-- the class asks what the model asks -/
theorem x_B_kp {cl : Int32 → Int32} {s : Nat} {y : Int32} (h : x_B cl s y) : y &&& (nI s ^^^ (-1)) = 0 ↔ ∀ r ∈ m_rl nI cl s, m_kp (nI s) r := by
  rw [z_xn, zb_dif]
  constructor
  · intro q r hr
    obtain ⟨u, hu, hpr, rfl⟩ := (m_rl_mem cl r s).mp hr
    intro h1
    rw [zb_sub']
    intro i hi
    exact q i ((h i).mpr ⟨u, hu, hpr, by rw [Int32.and_comm]; exact h1, hi⟩)
  · intro q i hi
    obtain ⟨u, hu, hpr, h1, h2⟩ := (h i).mp hi
    have := q _ ((m_rl_mem cl _ s).mpr ⟨u, hu, hpr, rfl⟩) (by rw [Int32.and_comm]; exact h1)
    exact zb_sub'.mp this i h2
theorem x_B_no {cl : Int32 → Int32} {s : Nat} {y : Int32} (h : x_B cl s y) (hn : ¬ x_pr cl s) : x_G cl s y := by
  intro b
  rw [h b]
  constructor
  · rintro ⟨u, a, c, d⟩
    exact ⟨u, by omega, c, d⟩
  · rintro ⟨u, a, c, d⟩
    by_cases e : u = s
    · subst e; exact absurd c hn
    · exact ⟨u, by omega, c, d⟩
theorem x_B_yes {cl : Int32 → Int32} {s : Nat} {y : Int32} (h : x_B cl s y) (hn : x_pr cl s) : x_G cl s (y ||| cl (nI s)) := by
  intro b
  rw [zb_or, Bool.or_eq_true, h b]
  constructor
  · rintro (⟨u, a, c, d⟩ | e)
    · exact ⟨u, by omega, c, d⟩
    · exact ⟨s, Nat.le_refl _, hn, Int32.and_self, e⟩
  · rintro ⟨u, a, c, d⟩
    by_cases e : u = s
    · subst e; exact Or.inr d.2
    · exact Or.inl ⟨u, by omega, c, d⟩
def XL2 (K L : Nat → Nat) (G : Nat → Nat → Value) (lp c1 c3 c4 S : Nat) : Prop := G lp 6 = .ref c3 ∧ K c3 = 13 ∧ L c3 = S ∧ S < 2 ^ 31 ∧ G lp 7 = .ref c4 ∧ K c4 = 13 ∧ L c4 = S ∧ c3 ≠ lp ∧ c4 ≠ lp ∧ c3 ≠ c4 ∧ lp ≠ c3 ∧ lp ≠ c4 ∧ c4 ≠ c3 ∧ c1 ≠ c3 ∧ c1 ≠ c4
section LAT2
variable {l : Launch} {n : Nat} {K L : Nat → Nat} {I : Nat → Nat → Int32} {J : Nat → Nat → Int64} {G : Nat → Nat → Value} {lp c1 c2 c3 c4 S S2 N : Nat} {cl : Int32 → Int32}
theorem c32_loop {X : zX} (hL : XL K L G lp c1 c2 S) (hj : X.2.1 = 32) (hN12 : N ≤ 12) (hS2 : 2 ^ N ≤ S) (hsz : I lp 1 = nI (2 ^ N)) (hcl : ∀ s, s < 2 ^ N → I c1 s = cl (nI s)) (hQ : ∀ r h', (r = none ∧ ∃ I', h' = (n, K, L, I', J, G) ∧ (∀ q, q ≠ lp → q ≠ c2 → I' q = I q) ∧ (∀ k, k ≠ 4 → I' lp k = I lp k) ∧ I' lp 4 = nI (m_cl nI cl (2 ^ N)).length ∧ m_lst (I' c2) (m_cl nI cl (2 ^ N))) → X.2.2.2.2.2.2 r h') : ∀ (k s : Nat) (I' : Nat → Nat → Int32), s + k = 2 ^ N → (∀ q, q ≠ lp → q ≠ c2 → I' q = I q) → (∀ k, k ≠ 4 → I' lp k = I lp k) → I' lp 4 = nI (m_cl nI cl s).length → m_lst (I' c2) (m_cl nI cl s) → zV X 7 [some (.ref lp), some (.int (nI s))] [] (n, K, L, I', J, G) 0 0
  | 0, s, I', hk, h1, h2, h3, h4 => by
    obtain ⟨q1, q2, q3, q4, q5, q6, q7, q8, q9, q10, q11, q12, q13, q14⟩ := hL
    have hp := z_pow hN12
    have e : s = 2 ^ N := by omega
    subst e
    have hsz' : I' lp 1 = nI (2 ^ N) := by rw [h2 1 (by omega)]; exact hsz
    refine zW_ok hj B32_7 7 _ _ _ _ _ b32_7 ?_
    simp only [B32_7, zW, z_wp1, z_ld, z_f0, z_f1, z_f2, z_f3, List.getElem?_cons_zero, List.getElem?_cons_succ, true_and, and_true, Int32.reduceOfInt, z_i10, z_i01, Int32.reduceLT, Int32.reduceLE, Int32.reduceAdd, Int32.reduceSub, z_set, z_set2, z_kil, List.set_cons_zero, List.set_cons_succ, List.take_succ_cons, List.take_zero, List.drop_succ_cons, List.drop_zero, List.reverse_cons, List.reverse_nil, List.nil_append, List.cons_append, List.getD_cons_succ, List.getD_cons_zero, List.getD_nil, List.length_cons, List.length_nil, List.map_cons, List.map_nil, List.sum_cons, List.sum_nil, Nat.reduceAdd, Nat.reduceLeDiff, Value.category, Option.toList, true_or, or_true, z_ua, ↓reduceIte, Nat.reduceEqDiff, eq_self, not_true_eq_false, not_false_eq_true, false_implies, true_implies, Classical.not_not, Nat.le_refl, Nat.zero_le, q1, hsz']
    try dsimp only
    refine ⟨fun _ => ?_, fun hc => absurd (nI_le (Nat.le_refl _) (by omega)) hc⟩
    refine zW_ok hj B32_51 51 _ _ _ _ _ b32_51 ?_
    simp only [B32_51, zW, z_wp1, z_ld, z_f0, z_f1, z_f2, z_f3, List.getElem?_cons_zero, List.getElem?_cons_succ, true_and, and_true, Int32.reduceOfInt, z_i10, z_i01, Int32.reduceLT, Int32.reduceLE, Int32.reduceAdd, Int32.reduceSub, z_set, z_set2, z_kil, List.set_cons_zero, List.set_cons_succ, List.take_succ_cons, List.take_zero, List.drop_succ_cons, List.drop_zero, List.reverse_cons, List.reverse_nil, List.nil_append, List.cons_append, List.getD_cons_succ, List.getD_cons_zero, List.getD_nil, List.length_cons, List.length_nil, List.map_cons, List.map_nil, List.sum_cons, List.sum_nil, Nat.reduceAdd, Nat.reduceLeDiff, Value.category, Option.toList, true_or, or_true, z_ua, ↓reduceIte, Nat.reduceEqDiff, eq_self, not_true_eq_false, not_false_eq_true, false_implies, true_implies, Classical.not_not, Nat.le_refl, Nat.zero_le]
    try dsimp only
    exact hQ _ _ ⟨rfl, I', rfl, h1, h2, h3, h4⟩
  | k + 1, s, I', hk, h1, h2, h3, h4 => by
    obtain ⟨q1, q2, q3, q4, q5, q6, q7, q8, q9, q10, q11, q12, q13, q14⟩ := id hL
    have hp := z_pow hN12
    have hsz' : I' lp 1 = nI (2 ^ N) := by rw [h2 1 (by omega)]; exact hsz
    have hlen := m_cl_len nI cl s
    have hc1 : I' c1 s = cl (nI s) := by rw [h1 c1 q9 q11]; exact hcl s (by omega)
    have e1 : (nI s).toNatClampNeg = s := nI_clamp (by omega)
    have v1 : vp_in (nI s) S := vp_in_nI (by omega) q5
    have e2 : (nI (m_cl nI cl s).length).toNatClampNeg = (m_cl nI cl s).length := nI_clamp (by omega)
    have v2 : vp_in (nI (m_cl nI cl s).length) S := vp_in_nI (by omega) q5
    refine zW_ok hj B32_7 7 _ _ _ _ _ b32_7 ?_
    simp only [B32_7, zW, z_wp1, z_ld, z_f0, z_f1, z_f2, z_f3, List.getElem?_cons_zero, List.getElem?_cons_succ, true_and, and_true, Int32.reduceOfInt, z_i10, z_i01, Int32.reduceLT, Int32.reduceLE, Int32.reduceAdd, Int32.reduceSub, z_set, z_set2, z_kil, List.set_cons_zero, List.set_cons_succ, List.take_succ_cons, List.take_zero, List.drop_succ_cons, List.drop_zero, List.reverse_cons, List.reverse_nil, List.nil_append, List.cons_append, List.getD_cons_succ, List.getD_cons_zero, List.getD_nil, List.length_cons, List.length_nil, List.map_cons, List.map_nil, List.sum_cons, List.sum_nil, Nat.reduceAdd, Nat.reduceLeDiff, Value.category, Option.toList, true_or, or_true, z_ua, ↓reduceIte, Nat.reduceEqDiff, eq_self, not_true_eq_false, not_false_eq_true, false_implies, true_implies, Classical.not_not, Nat.le_refl, Nat.zero_le, q1, hsz', q2, q3, q4, e1, v1, hc1, q6, q7, q8, h3, e2, v2, q10, q13, nI_1]
    try dsimp only
    refine ⟨fun hc => absurd hc (nI_ge (by omega) (by omega)), fun _ => ⟨fun hb => ?_, fun hb => ?_⟩⟩
    · refine zW_ok hj B32_45 45 _ _ _ _ _ b32_45 ?_
      simp only [B32_45, zW, z_wp1, z_ld, z_f0, z_f1, z_f2, z_f3, List.getElem?_cons_zero, List.getElem?_cons_succ, true_and, and_true, Int32.reduceOfInt, z_i10, z_i01, Int32.reduceLT, Int32.reduceLE, Int32.reduceAdd, Int32.reduceSub, z_set, z_set2, z_kil, List.set_cons_zero, List.set_cons_succ, List.take_succ_cons, List.take_zero, List.drop_succ_cons, List.drop_zero, List.reverse_cons, List.reverse_nil, List.nil_append, List.cons_append, List.getD_cons_succ, List.getD_cons_zero, List.getD_nil, List.length_cons, List.length_nil, List.map_cons, List.map_nil, List.sum_cons, List.sum_nil, Nat.reduceAdd, Nat.reduceLeDiff, Value.category, Option.toList, true_or, or_true, z_ua, ↓reduceIte, Nat.reduceEqDiff, eq_self, not_true_eq_false, not_false_eq_true, false_implies, true_implies, Classical.not_not, Nat.le_refl, Nat.zero_le, nI_1]
      try dsimp only
      refine c32_loop hL hj hN12 hS2 hsz hcl hQ k (s + 1) I' (by omega) h1 h2 ?_ ?_
      · rw [m_cl, if_neg hb]; exact h3
      · rw [m_cl, if_neg hb]; exact h4
    · refine zW_ok hj B32_45 45 _ _ _ _ _ b32_45 ?_
      simp only [B32_45, zW, z_wp1, z_ld, z_f0, z_f1, z_f2, z_f3, List.getElem?_cons_zero, List.getElem?_cons_succ, true_and, and_true, Int32.reduceOfInt, z_i10, z_i01, Int32.reduceLT, Int32.reduceLE, Int32.reduceAdd, Int32.reduceSub, z_set, z_set2, z_kil, List.set_cons_zero, List.set_cons_succ, List.take_succ_cons, List.take_zero, List.drop_succ_cons, List.drop_zero, List.reverse_cons, List.reverse_nil, List.nil_append, List.cons_append, List.getD_cons_succ, List.getD_cons_zero, List.getD_nil, List.length_cons, List.length_nil, List.map_cons, List.map_nil, List.sum_cons, List.sum_nil, Nat.reduceAdd, Nat.reduceLeDiff, Value.category, Option.toList, true_or, or_true, z_ua, ↓reduceIte, Nat.reduceEqDiff, eq_self, not_true_eq_false, not_false_eq_true, false_implies, true_implies, Classical.not_not, Nat.le_refl, Nat.zero_le, nI_1]
      try dsimp only
      refine c32_loop hL hj hN12 hS2 hsz hcl hQ k (s + 1) _ (by omega) (fun q a b => by rw [z_u_ne a, z_u_ne b]; exact h1 q a b) (fun q a => by rw [z_u_at, if_neg a, z_u_ne q13]; exact h2 q a) ?_ ?_
      · rw [m_cl, if_pos hb]; simp [z_u]
      · rw [m_cl, if_pos hb, z_u_ne q10]
        exact m_lst_add h4 (by simp [z_u]) (fun t ht => by rw [z_u_at, if_neg (by omega)])
theorem c32 (hL : XL K L G lp c1 c2 S) (hN12 : N ≤ 12) (hS2 : 2 ^ N ≤ S) (hsz : I lp 1 = nI (2 ^ N)) (hcl : ∀ s, s < 2 ^ N → I c1 s = cl (nI s)) : z_Ctr l 0 32 [.ref lp] (n, K, L, I, J, G) 0 0 (fun r h' => r = none ∧ ∃ I', h' = (n, K, L, I', J, G) ∧ (∀ q, q ≠ lp → q ≠ c2 → I' q = I q) ∧ (∀ k, k ≠ 4 → I' lp k = I lp k) ∧ I' lp 4 = nI (m_cl nI cl (2 ^ N)).length ∧ m_lst (I' c2) (m_cl nI cl (2 ^ N))) := by
  obtain ⟨q1, q2, q3, q4, q5, q6, q7, q8, q9, q10, q11, q12, q13, q14⟩ := id hL
  refine z_ctr (by decide) (by decide +kernel) (Nat.le_of_ble_eq_true rfl) (by decide +kernel) (fun X hl hj hd hm hs hsc hQ => ?_)
  show zV X 0 [some (.ref lp), none] [] _ 0 0
  refine zW_ok hj B32_0 0 _ _ _ _ _ b32_0 ?_
  simp only [B32_0, zW, z_wp1, z_ld, z_f0, z_f1, z_f2, z_f3, List.getElem?_cons_zero, List.getElem?_cons_succ, true_and, and_true, Int32.reduceOfInt, z_i10, z_i01, Int32.reduceLT, Int32.reduceLE, Int32.reduceAdd, Int32.reduceSub, z_set, z_set2, z_kil, List.set_cons_zero, List.set_cons_succ, List.take_succ_cons, List.take_zero, List.drop_succ_cons, List.drop_zero, List.reverse_cons, List.reverse_nil, List.nil_append, List.cons_append, List.getD_cons_succ, List.getD_cons_zero, List.getD_nil, List.length_cons, List.length_nil, List.map_cons, List.map_nil, List.sum_cons, List.sum_nil, Nat.reduceAdd, Nat.reduceLeDiff, Value.category, Option.toList, true_or, or_true, z_ua, ↓reduceIte, Nat.reduceEqDiff, eq_self, not_true_eq_false, not_false_eq_true, false_implies, true_implies, Classical.not_not, Nat.le_refl, Nat.zero_le, q1]
  try dsimp only
  refine c32_loop (I := I) hL hj hN12 hS2 hsz hcl hQ (2 ^ N) 0 _ (by omega) (fun q a b => by rw [z_u_ne a]) (fun q a => by rw [z_u_at, if_neg a]) (by simp [z_u, m_cl, nI_0]) (fun t x h => by simp [m_cl] at h)
theorem c34_loop {X : zX} (hk3 : K lp = 3) (hL2 : XL2 K L G lp c1 c3 c4 S2) (hj : X.2.1 = 34) (hN12 : N ≤ 12) (hmk : I lp 0 = nI N) {s : Nat} (hs2 : s < 2 ^ N) (hS2 : 2 ^ N ≤ S2) (hQ : ∀ r h', r = some (.int (x_gb (I c3) (nI s) N)) ∧ h' = (n, K, L, I, J, G) → X.2.2.2.2.2.2 r h') : ∀ k i : Nat, i + k = N → zV X 4 [some (.ref lp), some (.int (nI s)), some (.int (x_gb (I c3) (nI s) i)), some (.int (nI i))] [] (n, K, L, I, J, G) 0 0
  | 0, i, hi => by
    have e : i = N := by omega
    subst e
    refine zW_ok hj B34_4 4 _ _ _ _ _ b34_4 ?_
    simp only [B34_4, zW, z_wp1, z_ld, z_f0, z_f1, z_f2, z_f3, List.getElem?_cons_zero, List.getElem?_cons_succ, true_and, and_true, Int32.reduceOfInt, z_i10, z_i01, Int32.reduceLT, Int32.reduceLE, Int32.reduceAdd, Int32.reduceSub, z_set, z_set2, z_kil, List.set_cons_zero, List.set_cons_succ, List.take_succ_cons, List.take_zero, List.drop_succ_cons, List.drop_zero, List.reverse_cons, List.reverse_nil, List.nil_append, List.cons_append, List.getD_cons_succ, List.getD_cons_zero, List.getD_nil, List.length_cons, List.length_nil, List.map_cons, List.map_nil, List.sum_cons, List.sum_nil, Nat.reduceAdd, Nat.reduceLeDiff, Value.category, Option.toList, true_or, or_true, z_ua, ↓reduceIte, Nat.reduceEqDiff, eq_self, not_true_eq_false, not_false_eq_true, false_implies, true_implies, Classical.not_not, Nat.le_refl, Nat.zero_le, hk3, hmk]
    try dsimp only
    refine ⟨fun _ => ?_, fun hc => absurd (nI_le (Nat.le_refl _) (by omega)) hc⟩
    refine zW_ok hj B34_39 39 _ _ _ _ _ b34_39 ?_
    simp only [B34_39, zW, z_wp1, z_ld, z_f0, z_f1, z_f2, z_f3, List.getElem?_cons_zero, List.getElem?_cons_succ, true_and, and_true, Int32.reduceOfInt, z_i10, z_i01, Int32.reduceLT, Int32.reduceLE, Int32.reduceAdd, Int32.reduceSub, z_set, z_set2, z_kil, List.set_cons_zero, List.set_cons_succ, List.take_succ_cons, List.take_zero, List.drop_succ_cons, List.drop_zero, List.reverse_cons, List.reverse_nil, List.nil_append, List.cons_append, List.getD_cons_succ, List.getD_cons_zero, List.getD_nil, List.length_cons, List.length_nil, List.map_cons, List.map_nil, List.sum_cons, List.sum_nil, Nat.reduceAdd, Nat.reduceLeDiff, Value.category, Option.toList, true_or, or_true, z_ua, ↓reduceIte, Nat.reduceEqDiff, eq_self, not_true_eq_false, not_false_eq_true, false_implies, true_implies, Classical.not_not, Nat.le_refl, Nat.zero_le]
    try dsimp only
    exact hQ _ _ ⟨rfl, rfl⟩
  | k + 1, i, hi => by
    obtain ⟨q1, q2, q3, q4, q5, q6, q7, q8, q9, q10, q11, q12, q13, q14, q15⟩ := id hL2
    have hp := z_pow hN12
    have go : ∀ a : Int32, a = x_gb (I c3) (nI s) (i + 1) → zV X 33 [some (.ref lp), some (.int (nI s)), some (.int a), some (.int (nI i))] [] (n, K, L, I, J, G) 0 0 := fun a ha => by
      subst ha
      refine zW_ok hj B34_33 33 _ _ _ _ _ b34_33 ?_
      simp only [B34_33, zW, z_wp1, z_ld, z_f0, z_f1, z_f2, z_f3, List.getElem?_cons_zero, List.getElem?_cons_succ, true_and, and_true, Int32.reduceOfInt, z_i10, z_i01, Int32.reduceLT, Int32.reduceLE, Int32.reduceAdd, Int32.reduceSub, z_set, z_set2, z_kil, List.set_cons_zero, List.set_cons_succ, List.take_succ_cons, List.take_zero, List.drop_succ_cons, List.drop_zero, List.reverse_cons, List.reverse_nil, List.nil_append, List.cons_append, List.getD_cons_succ, List.getD_cons_zero, List.getD_nil, List.length_cons, List.length_nil, List.map_cons, List.map_nil, List.sum_cons, List.sum_nil, Nat.reduceAdd, Nat.reduceLeDiff, Value.category, Option.toList, true_or, or_true, z_ua, ↓reduceIte, Nat.reduceEqDiff, eq_self, not_true_eq_false, not_false_eq_true, false_implies, true_implies, Classical.not_not, Nat.le_refl, Nat.zero_le, nI_1]
      try dsimp only
      exact c34_loop hk3 hL2 hj hN12 hmk hs2 hS2 hQ k (i + 1) (by omega)
    refine zW_ok hj B34_4 4 _ _ _ _ _ b34_4 ?_
    simp only [B34_4, zW, z_wp1, z_ld, z_f0, z_f1, z_f2, z_f3, List.getElem?_cons_zero, List.getElem?_cons_succ, true_and, and_true, Int32.reduceOfInt, z_i10, z_i01, Int32.reduceLT, Int32.reduceLE, Int32.reduceAdd, Int32.reduceSub, z_set, z_set2, z_kil, List.set_cons_zero, List.set_cons_succ, List.take_succ_cons, List.take_zero, List.drop_succ_cons, List.drop_zero, List.reverse_cons, List.reverse_nil, List.nil_append, List.cons_append, List.getD_cons_succ, List.getD_cons_zero, List.getD_nil, List.length_cons, List.length_nil, List.map_cons, List.map_nil, List.sum_cons, List.sum_nil, Nat.reduceAdd, Nat.reduceLeDiff, Value.category, Option.toList, true_or, or_true, z_ua, ↓reduceIte, Nat.reduceEqDiff, eq_self, not_true_eq_false, not_false_eq_true, false_implies, true_implies, Classical.not_not, Nat.le_refl, Nat.zero_le, hk3, hmk, q1, q2, q3]
    try dsimp only
    refine ⟨fun hc => absurd hc (nI_ge (by omega) (by omega)), fun _ => ⟨fun hb => go _ ?_, fun hb => ⟨?_, go _ ?_⟩⟩⟩
    · rw [x_gb, if_pos hb]
    · have hb' := hb
      rw [zb_get0 (by omega), Bool.not_eq_false] at hb'
      obtain ⟨t, ht, et, _⟩ := z_xor1 (by omega) hs2 (show i < N by omega) hb'
      rw [et]
      exact vp_in_nI (by omega) q4
    · rw [x_gb, if_neg hb]
theorem c34 (hk3 : K lp = 3) (hL2 : XL2 K L G lp c1 c3 c4 S2) (hN12 : N ≤ 12) (hmk : I lp 0 = nI N) {s : Nat} (hs2 : s < 2 ^ N) (hS2 : 2 ^ N ≤ S2) : z_D l 0 34 [.ref lp, .int (nI s)] (n, K, L, I, J, G) (some (.int (x_gb (I c3) (nI s) N))) (n, K, L, I, J, G) := by
  refine z_ctr (by decide) (by decide +kernel) (Nat.le_of_ble_eq_true rfl) (by decide +kernel) (fun X hl hj hd hm hs hsc hQ => ?_)
  show zV X 0 [some (.ref lp), some (.int (nI s)), none, none] [] _ 0 0
  refine zW_ok hj B34_0 0 _ _ _ _ _ b34_0 ?_
  simp only [B34_0, zW, z_wp1, z_ld, z_f0, z_f1, z_f2, z_f3, List.getElem?_cons_zero, List.getElem?_cons_succ, true_and, and_true, Int32.reduceOfInt, z_i10, z_i01, Int32.reduceLT, Int32.reduceLE, Int32.reduceAdd, Int32.reduceSub, z_set, z_set2, z_kil, List.set_cons_zero, List.set_cons_succ, List.take_succ_cons, List.take_zero, List.drop_succ_cons, List.drop_zero, List.reverse_cons, List.reverse_nil, List.nil_append, List.cons_append, List.getD_cons_succ, List.getD_cons_zero, List.getD_nil, List.length_cons, List.length_nil, List.map_cons, List.map_nil, List.sum_cons, List.sum_nil, Nat.reduceAdd, Nat.reduceLeDiff, Value.category, Option.toList, true_or, or_true, z_ua, ↓reduceIte, Nat.reduceEqDiff, eq_self, not_true_eq_false, not_false_eq_true, false_implies, true_implies, Classical.not_not, Nat.le_refl, Nat.zero_le]
  try dsimp only
  exact c34_loop hk3 hL2 hj hN12 hmk hs2 hS2 hQ N 0 (by omega)
end LAT2
