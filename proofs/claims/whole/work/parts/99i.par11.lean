/-! The model's reader: a whole text, scales -/
/-- all marks of a text, from mark m at token i -/
def r_rd (kd am : Nat → Int32) : Nat → Nat → Nat → Except (Int32 × Nat) (List (List (Int32 × Int32)))
  | 0, _, _ => .ok []
  | k + 1, m, i => if kd i = 0 then .ok [] else if m = 12 then .error (3, i) else match r_cs kd (r_cl kd am 8) i with
    | .error e => .error e
    | .ok y => if kd y.1 = 2 then (match r_rd kd am k (m + 1) (y.1 + 1) with
      | .error e => .error e
      | .ok z => .ok (y.2 :: z)) else .error (1, y.1)
/-- where the marks' codes lie -/
def p_mk (I : Nat → Nat → Int32) (D : List (List (Int32 × Int32))) : Prop := ∀ k x, D[k]? = some x → I 79 (12 + k) = nI (D.take k).flatten.length ∧ I 80 (12 + k) = nI ((D.take k).flatten.length + x.length)
def m_f3 (I I' : Nat → Nat → Int32) : Prop := (∀ q, q ≠ 71 → q ≠ 79 → q ≠ 80 → q ≠ 81 → q ≠ 82 → q ≠ 83 → I' q = I q) ∧ (∀ k, k ≠ 12 → k ≠ 13 → k ≠ 14 → k ≠ 15 → k ≠ 22 → k ≠ 26 → k ≠ 27 → k ≠ 25 → k ≠ 23 → I' 71 k = I 71 k) ∧ (∀ k, k < 900 → I' 81 k = I 81 k ∧ I' 82 k = I 82 k) ∧ ∀ k, k < 12 → I' 79 k = I 79 k ∧ I' 80 k = I 80 k
theorem m_f3.rf (I : Nat → Nat → Int32) : m_f3 I I := ⟨fun _ _ _ _ _ _ _ => rfl, fun _ _ _ _ _ _ _ _ _ _ => rfl, fun _ _ => ⟨rfl, rfl⟩, fun _ _ => ⟨rfl, rfl⟩⟩
theorem m_f3.tr {I I1 I2 : Nat → Nat → Int32} (h1 : m_f3 I I1) (h2 : m_f3 I1 I2) : m_f3 I I2 := ⟨fun q a b c d e f => (h2.1 q a b c d e f).trans (h1.1 q a b c d e f), fun k a b c d e f g h i => (h2.2.1 k a b c d e f g h i).trans (h1.2.1 k a b c d e f g h i), fun k a => ⟨(h2.2.2.1 k a).1.trans (h1.2.2.1 k a).1, (h2.2.2.1 k a).2.trans (h1.2.2.1 k a).2⟩, fun k a => ⟨(h2.2.2.2 k a).1.trans (h1.2.2.2 k a).1, (h2.2.2.2 k a).2.trans (h1.2.2.2 k a).2⟩⟩
theorem m_f2.f3 {I I' : Nat → Nat → Int32} (h : m_f2 I I') : m_f3 I I' := ⟨fun q a _ _ b c d => h.1 q a b c d, h.2.1, h.2.2, fun k _ => ⟨by rw [h.1 79 (by decide) (by decide) (by decide) (by decide)], by rw [h.1 80 (by decide) (by decide) (by decide) (by decide)]⟩⟩
theorem m_f2.mk {I I' : Nat → Nat → Int32} (h : m_f2 I I') {D : List (List (Int32 × Int32))} (hd : p_mk I D) : p_mk I' D := fun k x hk => by rw [h.1 79 (by decide) (by decide) (by decide) (by decide), h.1 80 (by decide) (by decide) (by decide) (by decide)]; exact hd k x hk
theorem m_f3_79 (I : Nat → Nat → Int32) (k : Nat) (x : Int32) (hk : 12 ≤ k) : m_f3 I (z_u I 79 k x) := ⟨fun q _ b _ _ _ _ => by rw [z_u_ne b], fun j _ _ _ _ _ _ _ _ _ => by rw [z_u_ne (by decide)], fun j _ => by rw [z_u_ne (by decide), z_u_ne (by decide)]; exact ⟨rfl, rfl⟩, fun j hj => ⟨by rw [z_u_at, if_neg (by omega)], by rw [z_u_ne (by decide)]⟩⟩
theorem m_f3_80 (I : Nat → Nat → Int32) (k : Nat) (x : Int32) (hk : 12 ≤ k) : m_f3 I (z_u I 80 k x) := ⟨fun q _ _ b _ _ _ => by rw [z_u_ne b], fun j _ _ _ _ _ _ _ _ _ => by rw [z_u_ne (by decide)], fun j _ => by rw [z_u_ne (by decide), z_u_ne (by decide)]; exact ⟨rfl, rfl⟩, fun j hj => ⟨by rw [z_u_ne (by decide)], by rw [z_u_at, if_neg (by omega)]⟩⟩
theorem m_rd.o (q : Nat) (hq : q = 79 ∨ q = 80) {I : Nat → Nat → Int32} {t : Nat → Int32} {N i : Nat} {ms : List (Int32 × Int32)} (h : m_rd I t N i ms) (k : Nat) (x : Int32) : m_rd (z_u I q k x) t N i ms := by
  obtain ⟨a1, a2, a3, a4, a5, a6, a7, a8, a9, a10, a11⟩ := h
  have e : ∀ p, p ≠ q → z_u I q k x p = I p := fun p hp => z_u_ne hp
  refine ⟨by rw [e 71 (by omega)]; exact a1, a2, by rw [e 77 (by omega)]; exact a3, a4, by rw [e 78 (by omega)]; exact a5, by rw [e 71 (by omega)]; exact a6, by rw [e 71 (by omega)]; exact a7, by rw [e 71 (by omega)]; exact a8, ⟨by rw [e 71 (by omega)]; exact a9.1, fun j x hj => by rw [e 81 (by omega), e 82 (by omega)]; exact a9.2 j x hj⟩, a10, a11⟩
section PAR11
variable {l : Launch} {n : Nat} {K L : Nat → Nat} {I : Nat → Nat → Int32} {J : Nat → Nat → Int64} {G : Nat → Nat → Value} {t : Nat → Int32} {N i : Nat} {ms : List (Int32 × Int32)}
/-- how reading a text ends -/
def m_rr (I : Nat → Nat → Int32) (t : Nat → Int32) (N : Nat) (D : List (List (Int32 × Int32))) (R : Except (Int32 × Nat) (List (List (Int32 × Int32)))) (r : Option Value) (I2 : Nat → Nat → Int32) : Prop := m_f3 I I2 ∧ match R with
  | .error e => r = some (.int (-1)) ∧ I2 71 26 = e.1 ∧ I2 71 27 = nI (p_P t N e.2)
  | .ok Z => r = some (.int (nI (D ++ Z).length)) ∧ p_mk I2 (D ++ Z) ∧ p_cd I2 (D ++ Z).flatten ∧ (D ++ Z).length ≤ 12 ∧ (D ++ Z).flatten.length ≤ 800
theorem c190_loop {X : zX} (hS : SS K L G) (hj : X.2.1 = 190) (hdp : X.2.2.1 = 8) (hm : X.2.2.2.1 = 0) (hs : X.2.2.2.2.1 = 0) : ∀ (k i : Nat) (D : List (List (Int32 × Int32))) (I' : Nat → Nat → Int32), D.length + k = 13 → D.length ≤ 12 → m_rd I' t N i D.flatten → I' 71 23 = 0 → p_mk I' D → m_f3 I I' → (∀ r I2, m_rr I t N D (r_rd (p_K t N) (p_A t N) k D.length i) r I2 → X.2.2.2.2.2.2 r (n, K, L, I2, J, G)) → zV X 21 [some (.ref 71), some (.int (nI D.length))] [] (n, K, L, I', J, G) 0 0 := by
  intro k
  induction k with
  | zero =>
    intro i D I' hk hD
    omega
  | succ k ih =>
    intro i D I' hk hD hr ho hmk hf hQ
    obtain ⟨h0, hc, hl8⟩ := m_rd_iff.mp hr
    have hle := h0.le
    have te := t_end h0.2.2.2.2.2.2.2.1
    by_cases hk0 : p_K t N i = 0
    · have tk := te.mpr hk0
      rw [r_rd, if_pos hk0] at hQ
      refine zW_ok hj B190_21 21 _ _ _ _ _ b190_21 ?_
      simp only [B190_21, zW, z_wp1, z_ld, z_f0, z_f1, z_f2, z_f3, List.getElem?_cons_zero, List.getElem?_cons_succ, true_and, and_true, Int32.reduceOfInt, z_i10, z_i01, Int32.reduceLT, Int32.reduceLE, Int32.reduceAdd, Int32.reduceSub, z_set, z_set2, z_kil, List.set_cons_zero, List.set_cons_succ, List.take_succ_cons, List.take_zero, List.drop_succ_cons, List.drop_zero, List.reverse_cons, List.reverse_nil, List.nil_append, List.cons_append, List.getD_cons_succ, List.getD_cons_zero, List.getD_nil, List.length_cons, List.length_nil, List.map_cons, List.map_nil, List.sum_cons, List.sum_nil, Nat.reduceAdd, Nat.reduceLeDiff, Value.category, Option.toList, true_or, or_true, z_ua, ↓reduceIte, Nat.reduceEqDiff, eq_self, not_true_eq_false, not_false_eq_true, false_implies, true_implies, Classical.not_not, Nat.le_refl, Nat.zero_le, sK71 hS, tk]
      try dsimp only
      refine zW_ok hj B190_102 102 _ _ _ _ _ b190_102 ?_
      simp only [B190_102, zW, z_wp1, z_ld, z_f0, z_f1, z_f2, z_f3, List.getElem?_cons_zero, List.getElem?_cons_succ, true_and, and_true, Int32.reduceOfInt, z_i10, z_i01, Int32.reduceLT, Int32.reduceLE, Int32.reduceAdd, Int32.reduceSub, z_set, z_set2, z_kil, List.set_cons_zero, List.set_cons_succ, List.take_succ_cons, List.take_zero, List.drop_succ_cons, List.drop_zero, List.reverse_cons, List.reverse_nil, List.nil_append, List.cons_append, List.getD_cons_succ, List.getD_cons_zero, List.getD_nil, List.length_cons, List.length_nil, List.map_cons, List.map_nil, List.sum_cons, List.sum_nil, Nat.reduceAdd, Nat.reduceLeDiff, Value.category, Option.toList, true_or, or_true, z_ua, ↓reduceIte, Nat.reduceEqDiff, eq_self, not_true_eq_false, not_false_eq_true, false_implies, true_implies, Classical.not_not, Nat.le_refl, Nat.zero_le]
      try dsimp only
      refine hQ _ _ ⟨hf, by rw [List.append_nil], ?_⟩
      rw [List.append_nil]
      exact ⟨hmk, hc, hD, by omega⟩
    · have tk : ¬ I' 71 14 = 0 := fun q => hk0 (te.mp q)
      by_cases h12 : D.length = 12
      · have e12 : nI D.length = 12 := by rw [h12]; rfl
        rw [r_rd, if_neg hk0, if_pos h12] at hQ
        refine zW_ok hj B190_21 21 _ _ _ _ _ b190_21 ?_
        simp only [B190_21, zW, z_wp1, z_ld, z_f0, z_f1, z_f2, z_f3, List.getElem?_cons_zero, List.getElem?_cons_succ, true_and, and_true, Int32.reduceOfInt, z_i10, z_i01, Int32.reduceLT, Int32.reduceLE, Int32.reduceAdd, Int32.reduceSub, z_set, z_set2, z_kil, List.set_cons_zero, List.set_cons_succ, List.take_succ_cons, List.take_zero, List.drop_succ_cons, List.drop_zero, List.reverse_cons, List.reverse_nil, List.nil_append, List.cons_append, List.getD_cons_succ, List.getD_cons_zero, List.getD_nil, List.length_cons, List.length_nil, List.map_cons, List.map_nil, List.sum_cons, List.sum_nil, Nat.reduceAdd, Nat.reduceLeDiff, Value.category, Option.toList, true_or, or_true, z_ua, ↓reduceIte, Nat.reduceEqDiff, eq_self, not_true_eq_false, not_false_eq_true, false_implies, true_implies, Classical.not_not, Nat.le_refl, Nat.zero_le, sK71 hS, tk, e12]
        try dsimp only
        refine z_callD (c178 (I := I') (J := J) hS 3) (by omega) (by omega) (by omega) (Nat.le_of_ble_eq_true rfl) ?_
        try simp only [zW, z_wp1, z_ld, z_f0, z_f1, z_f2, z_f3, List.getElem?_cons_zero, List.getElem?_cons_succ, true_and, and_true, Int32.reduceOfInt, z_i10, z_i01, Int32.reduceLT, Int32.reduceLE, Int32.reduceAdd, Int32.reduceSub, z_set, z_set2, z_kil, List.set_cons_zero, List.set_cons_succ, List.take_succ_cons, List.take_zero, List.drop_succ_cons, List.drop_zero, List.reverse_cons, List.reverse_nil, List.nil_append, List.cons_append, List.getD_cons_succ, List.getD_cons_zero, List.getD_nil, List.length_cons, List.length_nil, List.map_cons, List.map_nil, List.sum_cons, List.sum_nil, Nat.reduceAdd, Nat.reduceLeDiff, Value.category, Option.toList, true_or, or_true, z_ua, ↓reduceIte, Nat.reduceEqDiff, eq_self, not_true_eq_false, not_false_eq_true, false_implies, true_implies, Classical.not_not, Nat.le_refl, Nat.zero_le, sK71 hS]
        try dsimp only
        obtain ⟨-, q1, q2⟩ := m_re_er.mp (hr.f 3 (ms' := []))
        exact hQ _ _ ⟨hf.tr (m_fr_f I' _ _).f2.f3, rfl, q1, q2⟩
      · have n12 : ¬ nI D.length = 12 := fun q => h12 ((nI_eq (b := 12) (by omega) (by omega)).mp q)
        rw [r_rd, if_neg hk0, if_neg h12] at hQ
        refine zW_ok hj B190_21 21 _ _ _ _ _ b190_21 ?_
        simp only [B190_21, zW, z_wp1, z_ld, z_f0, z_f1, z_f2, z_f3, List.getElem?_cons_zero, List.getElem?_cons_succ, true_and, and_true, Int32.reduceOfInt, z_i10, z_i01, Int32.reduceLT, Int32.reduceLE, Int32.reduceAdd, Int32.reduceSub, z_set, z_set2, z_kil, List.set_cons_zero, List.set_cons_succ, List.take_succ_cons, List.take_zero, List.drop_succ_cons, List.drop_zero, List.reverse_cons, List.reverse_nil, List.nil_append, List.cons_append, List.getD_cons_succ, List.getD_cons_zero, List.getD_nil, List.length_cons, List.length_nil, List.map_cons, List.map_nil, List.sum_cons, List.sum_nil, Nat.reduceAdd, Nat.reduceLeDiff, Value.category, Option.toList, true_or, or_true, z_ua, ↓reduceIte, Nat.reduceEqDiff, eq_self, not_true_eq_false, not_false_eq_true, false_implies, true_implies, Classical.not_not, Nat.le_refl, Nat.zero_le, sK71 hS, tk, n12]
        try dsimp only
        have hmy : I' 71 22 = nI D.flatten.length := hc.1
        have e0 : (12 : Int32) + nI D.length = nI (12 + D.length) := by rw [show (12 : Int32) = nI 12 from rfl, nI_add]
        have e1 : (nI (12 + D.length)).toNatClampNeg = 12 + D.length := nI_clamp (by omega)
        have v1 : vp_in (nI (12 + D.length)) 24 := vp_in_nI (by omega) (by omega)
        refine zW_ok hj B190_40 40 _ _ _ _ _ b190_40 ?_
        simp only [B190_40, zW, z_wp1, z_ld, z_f0, z_f1, z_f2, z_f3, List.getElem?_cons_zero, List.getElem?_cons_succ, true_and, and_true, Int32.reduceOfInt, z_i10, z_i01, Int32.reduceLT, Int32.reduceLE, Int32.reduceAdd, Int32.reduceSub, z_set, z_set2, z_kil, List.set_cons_zero, List.set_cons_succ, List.take_succ_cons, List.take_zero, List.drop_succ_cons, List.drop_zero, List.reverse_cons, List.reverse_nil, List.nil_append, List.cons_append, List.getD_cons_succ, List.getD_cons_zero, List.getD_nil, List.length_cons, List.length_nil, List.map_cons, List.map_nil, List.sum_cons, List.sum_nil, Nat.reduceAdd, Nat.reduceLeDiff, Value.category, Option.toList, true_or, or_true, z_ua, ↓reduceIte, Nat.reduceEqDiff, eq_self, not_true_eq_false, not_false_eq_true, false_implies, true_implies, Classical.not_not, Nat.le_refl, Nat.zero_le, sK71 hS, sG71_18 hS, sK79 hS, sL79 hS, hmy, e0, e1, v1]
        try dsimp only
        have hr1 := hr.o 79 (Or.inl rfl) (12 + D.length) (nI D.flatten.length)
        have ho1 : z_u I' 79 (12 + D.length) (nI D.flatten.length) 71 23 = 0 := by rw [z_u_ne (by decide)]; exact ho
        refine z_callQ (c189 (J := J) hS hr1 ho1) (by omega) (by omega) (by omega) (Nat.le_of_ble_eq_true rfl) ?_
        rintro r h' ⟨I2, rfl, f2, e2, o2⟩
        have f12 : m_f3 I I2 := (hf.tr (m_f3_79 I' _ _ (by omega))).tr f2.f3
        rcases m_re_q e2 with ⟨e, hR, rfl, q1, q2⟩ | ⟨y, hR, rfl, rd2⟩
        · rw [hR] at hQ
          simp only [zW, z_wp1, z_ld, z_f0, z_f1, z_f2, z_f3, List.getElem?_cons_zero, List.getElem?_cons_succ, true_and, and_true, Int32.reduceOfInt, z_i10, z_i01, Int32.reduceLT, Int32.reduceLE, Int32.reduceAdd, Int32.reduceSub, z_set, z_set2, z_kil, List.set_cons_zero, List.set_cons_succ, List.take_succ_cons, List.take_zero, List.drop_succ_cons, List.drop_zero, List.reverse_cons, List.reverse_nil, List.nil_append, List.cons_append, List.getD_cons_succ, List.getD_cons_zero, List.getD_nil, List.length_cons, List.length_nil, List.map_cons, List.map_nil, List.sum_cons, List.sum_nil, Nat.reduceAdd, Nat.reduceLeDiff, Value.category, Option.toList, true_or, or_true, z_ua, ↓reduceIte, Nat.reduceEqDiff, eq_self, not_true_eq_false, not_false_eq_true, false_implies, true_implies, Classical.not_not, Nat.le_refl, Nat.zero_le]
          try dsimp only
          exact hQ _ _ ⟨f12, rfl, q1, q2⟩
        · rw [hR] at hQ
          dsimp only at hQ
          simp only [zW, z_wp1, z_ld, z_f0, z_f1, z_f2, z_f3, List.getElem?_cons_zero, List.getElem?_cons_succ, true_and, and_true, Int32.reduceOfInt, z_i10, z_i01, Int32.reduceLT, Int32.reduceLE, Int32.reduceAdd, Int32.reduceSub, z_set, z_set2, z_kil, List.set_cons_zero, List.set_cons_succ, List.take_succ_cons, List.take_zero, List.drop_succ_cons, List.drop_zero, List.reverse_cons, List.reverse_nil, List.nil_append, List.cons_append, List.getD_cons_succ, List.getD_cons_zero, List.getD_nil, List.length_cons, List.length_nil, List.map_cons, List.map_nil, List.sum_cons, List.sum_nil, Nat.reduceAdd, Nat.reduceLeDiff, Value.category, Option.toList, true_or, or_true, z_ua, ↓reduceIte, Nat.reduceEqDiff, eq_self, not_true_eq_false, not_false_eq_true, false_implies, true_implies, Classical.not_not, Nat.le_refl, Nat.zero_le]
          try dsimp only
          refine ⟨fun _ => ?_, fun q => absurd q (by decide)⟩
          obtain ⟨g1, g2, g3⟩ := m_rd_iff.mp rd2
          have hle2 := g1.le
          have hmy2 : I2 71 22 = nI (D.flatten ++ y.2).length := g2.1
          have hr3 := rd2.o 80 (Or.inr rfl) (12 + D.length) (nI (D.flatten ++ y.2).length)
          have c2 := c181 (l := X.1) (n := n) (J := J) hS hr3 m_sg59 (k := 2) (by decide)
          have f123 := f12.tr (m_f3_80 I2 (12 + D.length) (nI (D.flatten ++ y.2).length) (by omega))
          refine zW_ok hj B190_63 63 _ _ _ _ _ b190_63 ?_
          simp only [B190_63, zW, z_wp1, z_ld, z_f0, z_f1, z_f2, z_f3, List.getElem?_cons_zero, List.getElem?_cons_succ, true_and, and_true, Int32.reduceOfInt, z_i10, z_i01, Int32.reduceLT, Int32.reduceLE, Int32.reduceAdd, Int32.reduceSub, z_set, z_set2, z_kil, List.set_cons_zero, List.set_cons_succ, List.take_succ_cons, List.take_zero, List.drop_succ_cons, List.drop_zero, List.reverse_cons, List.reverse_nil, List.nil_append, List.cons_append, List.getD_cons_succ, List.getD_cons_zero, List.getD_nil, List.length_cons, List.length_nil, List.map_cons, List.map_nil, List.sum_cons, List.sum_nil, Nat.reduceAdd, Nat.reduceLeDiff, Value.category, Option.toList, true_or, or_true, z_ua, ↓reduceIte, Nat.reduceEqDiff, eq_self, not_true_eq_false, not_false_eq_true, false_implies, true_implies, Classical.not_not, Nat.le_refl, Nat.zero_le, sK71 hS, sG71_19 hS, sK80 hS, sL80 hS, hmy2, e0, e1, v1, nI_1]
          try dsimp only
          by_cases k2 : p_K t N y.1 = 2
          · have hk2 : ¬ p_K t N y.1 = 0 := by rw [k2]; decide
            rw [if_pos k2] at hQ
            refine z_callD (c2) (by omega) (by omega) (by omega) (Nat.le_of_ble_eq_true rfl) ?_
            try simp only [zW, z_wp1, z_ld, z_f0, z_f1, z_f2, z_f3, List.getElem?_cons_zero, List.getElem?_cons_succ, true_and, and_true, Int32.reduceOfInt, z_i10, z_i01, Int32.reduceLT, Int32.reduceLE, Int32.reduceAdd, Int32.reduceSub, z_set, z_set2, z_kil, List.set_cons_zero, List.set_cons_succ, List.take_succ_cons, List.take_zero, List.drop_succ_cons, List.drop_zero, List.reverse_cons, List.reverse_nil, List.nil_append, List.cons_append, List.getD_cons_succ, List.getD_cons_zero, List.getD_nil, List.length_cons, List.length_nil, List.map_cons, List.map_nil, List.sum_cons, List.sum_nil, Nat.reduceAdd, Nat.reduceLeDiff, Value.category, Option.toList, true_or, or_true, z_ua, ↓reduceIte, Nat.reduceEqDiff, eq_self, not_true_eq_false, not_false_eq_true, false_implies, true_implies, Classical.not_not, Nat.le_refl, Nat.zero_le, sK71 hS, z_b1 k2]
            try dsimp only
            obtain ⟨h3, hc3, hl3⟩ := m_rd_iff.mp hr3
            refine zW_ok hj B190_95 95 _ _ _ _ _ b190_95 ?_
            simp only [B190_95, zW, z_wp1, z_ld, z_f0, z_f1, z_f2, z_f3, List.getElem?_cons_zero, List.getElem?_cons_succ, true_and, and_true, Int32.reduceOfInt, z_i10, z_i01, Int32.reduceLT, Int32.reduceLE, Int32.reduceAdd, Int32.reduceSub, z_set, z_set2, z_kil, List.set_cons_zero, List.set_cons_succ, List.take_succ_cons, List.take_zero, List.drop_succ_cons, List.drop_zero, List.reverse_cons, List.reverse_nil, List.nil_append, List.cons_append, List.getD_cons_succ, List.getD_cons_zero, List.getD_nil, List.length_cons, List.length_nil, List.map_cons, List.map_nil, List.sum_cons, List.sum_nil, Nat.reduceAdd, Nat.reduceLeDiff, Value.category, Option.toList, true_or, or_true, z_ua, ↓reduceIte, Nat.reduceEqDiff, eq_self, not_true_eq_false, not_false_eq_true, false_implies, true_implies, Classical.not_not, Nat.le_refl, Nat.zero_le, sK71 hS]
            try dsimp only
            refine z_callQ (c177r (J := J) hS h3) (by omega) (by omega) (by omega) (Nat.le_of_ble_eq_true rfl) ?_
            rintro r h' ⟨rfl, I4, rfl, q1, q2, q3, q4⟩
            obtain ⟨f4, r4, cc4⟩ := h3.nx hk2 q1 q2 q3 q4
            simp only [zW, z_wp1, z_ld, z_f0, z_f1, z_f2, z_f3, List.getElem?_cons_zero, List.getElem?_cons_succ, true_and, and_true, Int32.reduceOfInt, z_i10, z_i01, Int32.reduceLT, Int32.reduceLE, Int32.reduceAdd, Int32.reduceSub, z_set, z_set2, z_kil, List.set_cons_zero, List.set_cons_succ, List.take_succ_cons, List.take_zero, List.drop_succ_cons, List.drop_zero, List.reverse_cons, List.reverse_nil, List.nil_append, List.cons_append, List.getD_cons_succ, List.getD_cons_zero, List.getD_nil, List.length_cons, List.length_nil, List.map_cons, List.map_nil, List.sum_cons, List.sum_nil, Nat.reduceAdd, Nat.reduceLeDiff, Value.category, Option.toList, true_or, or_true, z_ua, ↓reduceIte, Nat.reduceEqDiff, eq_self, not_true_eq_false, not_false_eq_true, false_implies, true_implies, Classical.not_not, Nat.le_refl, Nat.zero_le]
            try dsimp only
            have hlen : (D ++ [y.2]).length = D.length + 1 := by rw [List.length_append]; rfl
            have hfl : (D ++ [y.2]).flatten = D.flatten ++ y.2 := by rw [List.flatten_append]; simp
            have o4 : I4 71 23 = 0 := by rw [f4.op, z_u_ne (by decide)]; exact o2 rfl
            have key := ih (y.1 + 1) (D ++ [y.2]) I4 (by omega) (by omega) (by rw [hfl]; exact m_rd_iff.mpr ⟨r4, cc4 _ hc3, by omega⟩) o4 ?_ (f123.tr f4.f2.f3) (fun r I5 q => hQ r I5 ?_)
            · rw [hlen] at key
              exact key
            · refine f4.f2.mk (fun k x hk' => ?_)
              by_cases z : k = D.length
              · subst z
                rw [List.getElem?_append_right (Nat.le_refl _), Nat.sub_self] at hk'
                simp at hk'
                subst hk'
                rw [List.take_left, z_u_ne (by decide), z_u_at, if_pos rfl, f2.1 79 (by decide) (by decide) (by decide) (by decide), z_u_at, if_pos rfl, List.length_append]
                exact ⟨rfl, rfl⟩
              · have hlt : k < D.length := by
                  have := (List.getElem?_eq_some_iff.mp hk').1
                  omega
                rw [List.getElem?_append_left hlt] at hk'
                rw [List.take_append_of_le_length (by omega), z_u_ne (by decide), z_u_at, if_neg (by omega), f2.1 79 (by decide) (by decide) (by decide) (by decide), f2.1 80 (by decide) (by decide) (by decide) (by decide), z_u_at, if_neg (by omega), z_u_ne (by decide)]
                exact hmk k x hk'
            · rw [hlen] at q
              cases hz : r_rd (p_K t N) (p_A t N) k (D.length + 1) (y.1 + 1) with
              | error e => rw [hz] at q; exact q
              | ok Z =>
                rw [hz] at q
                have q2 := q.2
                refine ⟨q.1, ?_⟩
                simpa [List.append_assoc] using q2
          · rw [if_neg k2] at hQ
            refine z_callD (c2) (by omega) (by omega) (by omega) (Nat.le_of_ble_eq_true rfl) ?_
            try simp only [zW, z_wp1, z_ld, z_f0, z_f1, z_f2, z_f3, List.getElem?_cons_zero, List.getElem?_cons_succ, true_and, and_true, Int32.reduceOfInt, z_i10, z_i01, Int32.reduceLT, Int32.reduceLE, Int32.reduceAdd, Int32.reduceSub, z_set, z_set2, z_kil, List.set_cons_zero, List.set_cons_succ, List.take_succ_cons, List.take_zero, List.drop_succ_cons, List.drop_zero, List.reverse_cons, List.reverse_nil, List.nil_append, List.cons_append, List.getD_cons_succ, List.getD_cons_zero, List.getD_nil, List.length_cons, List.length_nil, List.map_cons, List.map_nil, List.sum_cons, List.sum_nil, Nat.reduceAdd, Nat.reduceLeDiff, Value.category, Option.toList, true_or, or_true, z_ua, ↓reduceIte, Nat.reduceEqDiff, eq_self, not_true_eq_false, not_false_eq_true, false_implies, true_implies, Classical.not_not, Nat.le_refl, Nat.zero_le, sK71 hS, z_b0 k2]
            try dsimp only
            refine z_callD (c178 (J := J) hS 1) (by omega) (by omega) (by omega) (Nat.le_of_ble_eq_true rfl) ?_
            try simp only [zW, z_wp1, z_ld, z_f0, z_f1, z_f2, z_f3, List.getElem?_cons_zero, List.getElem?_cons_succ, true_and, and_true, Int32.reduceOfInt, z_i10, z_i01, Int32.reduceLT, Int32.reduceLE, Int32.reduceAdd, Int32.reduceSub, z_set, z_set2, z_kil, List.set_cons_zero, List.set_cons_succ, List.take_succ_cons, List.take_zero, List.drop_succ_cons, List.drop_zero, List.reverse_cons, List.reverse_nil, List.nil_append, List.cons_append, List.getD_cons_succ, List.getD_cons_zero, List.getD_nil, List.length_cons, List.length_nil, List.map_cons, List.map_nil, List.sum_cons, List.sum_nil, Nat.reduceAdd, Nat.reduceLeDiff, Value.category, Option.toList, true_or, or_true, z_ua, ↓reduceIte, Nat.reduceEqDiff, eq_self, not_true_eq_false, not_false_eq_true, false_implies, true_implies, Classical.not_not, Nat.le_refl, Nat.zero_le, sK71 hS]
            try dsimp only
            obtain ⟨-, q1, q2⟩ := m_re_er.mp (hr3.f 1 (ms' := []))
            exact hQ _ _ ⟨f123.tr (m_fr_f _ _ _).f2.f3, rfl, q1, q2⟩
/-- what a text is -/
def m_tx (I : Nat → Nat → Int32) (t : Nat → Int32) (N : Nat) : Prop := I 71 11 = nI N ∧ N ≤ 800 ∧ I 77 = t ∧ (∀ k, k < N → 0 ≤ t k) ∧ p_lay (I 78) 0 p_ws
/-- reads -/
theorem c190 (hS : SS K L G) (hx : m_tx I t N) : z_Ctr l 8 190 [.ref 71] (n, K, L, I, J, G) 0 0 (fun r h' => ∃ I', h' = (n, K, L, I', J, G) ∧ m_rr I t N [] (r_rd (p_K t N) (p_A t N) 13 0 0) r I') := by
  obtain ⟨x1, x2, x3, x4, x5⟩ := hx
  refine z_ctr (by decide) (by decide +kernel) (Nat.le_of_ble_eq_true rfl) (by decide +kernel) (fun X hl hj hd hm hs hsc hQ => ?_)
  show zV X 0 [some (.ref 71), none] [] _ 0 0
  subst hl
  refine zW_ok hj B190_0 0 _ _ _ _ _ b190_0 ?_
  simp only [B190_0, zW, z_wp1, z_ld, z_f0, z_f1, z_f2, z_f3, List.getElem?_cons_zero, List.getElem?_cons_succ, true_and, and_true, Int32.reduceOfInt, z_i10, z_i01, Int32.reduceLT, Int32.reduceLE, Int32.reduceAdd, Int32.reduceSub, z_set, z_set2, z_kil, List.set_cons_zero, List.set_cons_succ, List.take_succ_cons, List.take_zero, List.drop_succ_cons, List.drop_zero, List.reverse_cons, List.reverse_nil, List.nil_append, List.cons_append, List.getD_cons_succ, List.getD_cons_zero, List.getD_nil, List.length_cons, List.length_nil, List.map_cons, List.map_nil, List.sum_cons, List.sum_nil, Nat.reduceAdd, Nat.reduceLeDiff, Value.category, Option.toList, true_or, or_true, z_ua, ↓reduceIte, Nat.reduceEqDiff, eq_self, not_true_eq_false, not_false_eq_true, false_implies, true_implies, Classical.not_not, Nat.le_refl, Nat.zero_le, sK71 hS]
  try dsimp only
  generalize hI1 : z_u (z_u (z_u I 71 12 0) 71 22 0) 71 23 0 = I1
  have f1 : m_f3 I I1 := by
    rw [← hI1]
    exact ⟨fun q a _ _ _ _ _ => by rw [z_u_ne a, z_u_ne a, z_u_ne a], fun k a b c d e f g h i => by rw [z_u_at, if_neg i, z_u_at, if_neg e, z_u_at, if_neg a], fun k _ => by rw [z_u_ne (by decide), z_u_ne (by decide), z_u_ne (by decide), z_u_ne (by decide), z_u_ne (by decide), z_u_ne (by decide)]; exact ⟨rfl, rfl⟩, fun k _ => by rw [z_u_ne (by decide), z_u_ne (by decide), z_u_ne (by decide), z_u_ne (by decide), z_u_ne (by decide), z_u_ne (by decide)]; exact ⟨rfl, rfl⟩⟩
  have a1 : I1 71 12 = nI 0 := by rw [← hI1, z_u_at, if_neg (by decide), z_u_at, if_neg (by decide), z_u_at, if_pos rfl]; rfl
  have a2 : I1 71 22 = nI 0 := by rw [← hI1, z_u_at, if_neg (by decide), z_u_at, if_pos rfl]; rfl
  have a3 : I1 71 23 = 0 := by rw [← hI1, z_u_at, if_pos rfl]
  have a4 : I1 71 11 = nI N := by rw [f1.2.1 _ (by decide) (by decide) (by decide) (by decide) (by decide) (by decide) (by decide) (by decide) (by decide)]; exact x1
  have a5 : I1 77 = t := by rw [f1.1 77 (by decide) (by decide) (by decide) (by decide) (by decide) (by decide)]; exact x3
  have a6 : p_lay (I1 78) 0 p_ws := by rw [f1.1 78 (by decide) (by decide) (by decide) (by decide) (by decide) (by decide)]; exact x5
  have cn := c177 (l := X.1) (n := n) (J := J) (N := N) (a := 0) hS a6 a4 x2 (by rw [a5]; exact x4) (Nat.zero_le _) a1
  rw [a5] at cn
  refine z_callQ cn (by omega) (by omega) (by omega) (Nat.le_of_ble_eq_true rfl) ?_
  rintro r h' ⟨rfl, I2, rfl, q1, q2, q3, q4⟩
  simp only [zW, z_wp1, z_ld, z_f0, z_f1, z_f2, z_f3, List.getElem?_cons_zero, List.getElem?_cons_succ, true_and, and_true, Int32.reduceOfInt, z_i10, z_i01, Int32.reduceLT, Int32.reduceLE, Int32.reduceAdd, Int32.reduceSub, z_set, z_set2, z_kil, List.set_cons_zero, List.set_cons_succ, List.take_succ_cons, List.take_zero, List.drop_succ_cons, List.drop_zero, List.reverse_cons, List.reverse_nil, List.nil_append, List.cons_append, List.getD_cons_succ, List.getD_cons_zero, List.getD_nil, List.length_cons, List.length_nil, List.map_cons, List.map_nil, List.sum_cons, List.sum_nil, Nat.reduceAdd, Nat.reduceLeDiff, Value.category, Option.toList, true_or, or_true, z_ua, ↓reduceIte, Nat.reduceEqDiff, eq_self, not_true_eq_false, not_false_eq_true, false_implies, true_implies, Classical.not_not, Nat.le_refl, Nat.zero_le]
  try dsimp only
  have hr : m_rd I2 t N 0 ([] : List (List (Int32 × Int32))).flatten := m_rd_iff.mpr ⟨⟨by rw [q1.2 _ (by decide) (by decide) (by decide) (by decide)]; exact a4, x2, by rw [q1.1 77 (by decide)]; exact a5, x4, by rw [q1.1 78 (by decide)]; exact a6, q2, q3, q4, fun j hj => by omega⟩, ⟨by rw [q1.2 _ (by decide) (by decide) (by decide) (by decide)]; exact a2, fun j x hj => by simp at hj⟩, by simp⟩
  have key := c190_loop (I := I) hS hj hd hm hs 13 0 [] I2 (by simp) (by simp) hr (by rw [q1.2 _ (by decide) (by decide) (by decide) (by decide)]; exact a3) (fun k x hk => by simp at hk) (f1.tr q1.m.f2.f3) (fun r I3 q => hQ _ _ ⟨I3, rfl, q⟩)
  exact key
end PAR11
