/-! The class's reader: a whole text -/
section XRD6
variable {l : Launch} {n : Nat} {K L : Nat → Nat} {I : Nat → Nat → Int32} {J : Nat → Nat → Int64} {G : Nat → Nat → Value} {t : Nat → Int32} {N M i cd : Nat} {xs : List (Int32 × Int32)}
/-- where the marks end -/
def x_mk (I : Nat → Nat → Int32) (cd : Nat) (D : List (List (Int32 × Int32))) : Prop := ∀ k, k < D.length → I (cd + 2) k = nI (D.take (k + 1)).flatten.length
/-- what reading a text changes -/
def x_rg (I I' : Nat → Nat → Int32) (cd : Nat) : Prop := (∀ q, q ≠ 60 → q ≠ 61 → q ≠ 62 → q ≠ 63 → q ≠ 64 → q ≠ cd → q ≠ cd + 1 → q ≠ cd + 2 → I' q = I q) ∧ ∀ k, k ≠ 1 → k ≠ 3 → I' cd k = I cd k
theorem x_rf.rg {I I' : Nat → Nat → Int32} {cd : Nat} (h : x_rf I I' cd) : x_rg I I' cd := ⟨fun q a b _ _ _ c d _ => h.1 q a b c d, fun k a _ => h.2.2.2 k a⟩
theorem x_rg.tr {I I1 I2 : Nat → Nat → Int32} {cd : Nat} (h1 : x_rg I I1 cd) (h2 : x_rg I1 I2 cd) : x_rg I I2 cd := ⟨fun q a b c d e f g h => (h2.1 q a b c d e f g h).trans (h1.1 q a b c d e f g h), fun k a b => (h2.2 k a b).trans (h1.2 k a b)⟩
theorem x_rg.rf (I : Nat → Nat → Int32) (cd : Nat) : x_rg I I cd := ⟨fun _ _ _ _ _ _ _ _ _ => rfl, fun _ _ _ => rfl⟩
/-- how reading a text ends -/
def x_rr (I : Nat → Nat → Int32) (t : Nat → Int32) (N cd : Nat) (D : List (List (Int32 × Int32))) (R : Except (Int32 × Nat) (List (List (Int32 × Int32)))) (r : Option Value) (I2 : Nat → Nat → Int32) : Prop := x_rg I I2 cd ∧ match R with
  | .error e => r = some (.int 0) ∧ I2 60 2 = e.1 ∧ I2 60 3 = nI (p_P t N e.2)
  | .ok Z => r = some (.int 1) ∧ ∃ ZX, (ZX.map p_fl = Z ∧ ∀ zs ∈ ZX, ∀ x ∈ zs, x_vc x) ∧ I2 cd 3 = nI (D ++ ZX).length ∧ x_mk I2 cd (D ++ ZX) ∧ x_cd' I2 cd (D ++ ZX).flatten ∧ (D ++ ZX).length ≤ 12 ∧ (D ++ ZX).flatten.length ≤ 800 ∧ I2 60 2 = 0 ∧ I2 60 3 = -1
theorem x_mk.cg {I I' : Nat → Nat → Int32} {cd : Nat} {D : List (List (Int32 × Int32))} (h : x_mk I cd D) (e : I' (cd + 2) = I (cd + 2)) : x_mk I' cd D := fun k hk => by rw [e]; exact h k hk
theorem c59_loop {X : zX} (he : x_en K L G t N cd) (hj : X.2.1 = 59) (hdp : X.2.2.1 = 30) (hm : X.2.2.2.1 = 0) (hs : X.2.2.2.2.1 = 0) : ∀ (k i : Nat) (D : List (List (Int32 × Int32))) (I' : Nat → Nat → Int32), D.length + k = 13 → D.length ≤ 12 → x_rd I' t N M cd i D.flatten → I' cd 3 = nI D.length → x_mk I' cd D → x_rg I I' cd → (∀ r I2, x_rr I t N cd D (r_rd (p_K t N) (p_A t N) k D.length i) r I2 → X.2.2.2.2.2.2 r (n, K, L, I2, J, G)) → zV X 28 [some (.ref 60), some (.ref 59), some (.int (nI N)), some (.int (nI D.length))] [] (n, K, L, I', J, G) 0 0 := by
  obtain ⟨hS, h2, hG, hK, hch⟩ := id he
  intro k
  induction k with
  | zero =>
    intro i D I' hk hD
    omega
  | succ k ih =>
    intro i D I' hk hD hr h3 hmk hf hQ
    obtain ⟨h0, hc, hl8⟩ := id hr
    have hiM := h0.2.1
    have hM8 := h0.1.2.1
    have hkd : I' 61 5 = p_K t N i := h0.2.2.2.1
    have nlt : ¬ (12 : Int32) < nI D.length := Int32.not_lt.mpr (nI_le (b := 12) hD (by omega))
    by_cases hk0 : p_K t N i = 0
    · rw [r_rd, if_pos hk0] at hQ
      refine zW_ok hj B59_28 28 _ _ _ _ _ b59_28 ?_
      simp only [B59_28, zW, z_wp1, z_ld, z_f0, z_f1, z_f2, z_f3, List.getElem?_cons_zero, List.getElem?_cons_succ, true_and, and_true, Int32.reduceOfInt, z_i10, z_i01, Int32.reduceLT, Int32.reduceLE, Int32.reduceAdd, Int32.reduceSub, z_set, z_set2, z_kil, List.set_cons_zero, List.set_cons_succ, List.take_succ_cons, List.take_zero, List.drop_succ_cons, List.drop_zero, List.reverse_cons, List.reverse_nil, List.nil_append, List.cons_append, List.getD_cons_succ, List.getD_cons_zero, List.getD_nil, List.length_cons, List.length_nil, List.map_cons, List.map_nil, List.sum_cons, List.sum_nil, Nat.reduceAdd, Nat.reduceLeDiff, Value.category, Option.toList, true_or, or_true, z_ua, ↓reduceIte, Nat.reduceEqDiff, eq_self, not_true_eq_false, not_false_eq_true, false_implies, true_implies, Classical.not_not, Nat.le_refl, Nat.zero_le, nlt, sK60 hS, sG60_0 hS, sK61 hS, sK61 hS, hkd, hk0]
      try dsimp only
      refine zW_ok hj B59_103 103 _ _ _ _ _ b59_103 ?_
      simp only [B59_103, zW, z_wp1, z_ld, z_f0, z_f1, z_f2, z_f3, List.getElem?_cons_zero, List.getElem?_cons_succ, true_and, and_true, Int32.reduceOfInt, z_i10, z_i01, Int32.reduceLT, Int32.reduceLE, Int32.reduceAdd, Int32.reduceSub, z_set, z_set2, z_kil, List.set_cons_zero, List.set_cons_succ, List.take_succ_cons, List.take_zero, List.drop_succ_cons, List.drop_zero, List.reverse_cons, List.reverse_nil, List.nil_append, List.cons_append, List.getD_cons_succ, List.getD_cons_zero, List.getD_nil, List.length_cons, List.length_nil, List.map_cons, List.map_nil, List.sum_cons, List.sum_nil, Nat.reduceAdd, Nat.reduceLeDiff, Value.category, Option.toList, true_or, or_true, z_ua, ↓reduceIte, Nat.reduceEqDiff, eq_self, not_true_eq_false, not_false_eq_true, false_implies, true_implies, Classical.not_not, Nat.le_refl, Nat.zero_le]
      try dsimp only
      refine hQ _ _ ⟨hf, rfl, [], ⟨rfl, fun z hz => by cases hz⟩, ?_⟩
      rw [List.append_nil]
      exact ⟨h3, hmk, hc, hD, by omega, h0.2.2.2.2.2.2⟩
    · by_cases h12 : D.length = 12
      · have e12 : nI D.length = 12 := by rw [h12]; rfl
        rw [r_rd, if_neg hk0, if_pos h12] at hQ
        refine zW_ok hj B59_28 28 _ _ _ _ _ b59_28 ?_
        simp only [B59_28, zW, z_wp1, z_ld, z_f0, z_f1, z_f2, z_f3, List.getElem?_cons_zero, List.getElem?_cons_succ, true_and, and_true, Int32.reduceOfInt, z_i10, z_i01, Int32.reduceLT, Int32.reduceLE, Int32.reduceAdd, Int32.reduceSub, z_set, z_set2, z_kil, List.set_cons_zero, List.set_cons_succ, List.take_succ_cons, List.take_zero, List.drop_succ_cons, List.drop_zero, List.reverse_cons, List.reverse_nil, List.nil_append, List.cons_append, List.getD_cons_succ, List.getD_cons_zero, List.getD_nil, List.length_cons, List.length_nil, List.map_cons, List.map_nil, List.sum_cons, List.sum_nil, Nat.reduceAdd, Nat.reduceLeDiff, Value.category, Option.toList, true_or, or_true, z_ua, ↓reduceIte, Nat.reduceEqDiff, eq_self, not_true_eq_false, not_false_eq_true, false_implies, true_implies, Classical.not_not, Nat.le_refl, Nat.zero_le, nlt, sK60 hS, sG60_0 hS, sK61 hS, sK61 hS, hkd, hk0, e12]
        try dsimp only
        refine z_callD (c71 (I := I') (J := J) hS 3) (by omega) (by omega) (by omega) (Nat.le_of_ble_eq_true rfl) ?_
        try simp only [zW, z_wp1, z_ld, z_f0, z_f1, z_f2, z_f3, List.getElem?_cons_zero, List.getElem?_cons_succ, true_and, and_true, Int32.reduceOfInt, z_i10, z_i01, Int32.reduceLT, Int32.reduceLE, Int32.reduceAdd, Int32.reduceSub, z_set, z_set2, z_kil, List.set_cons_zero, List.set_cons_succ, List.take_succ_cons, List.take_zero, List.drop_succ_cons, List.drop_zero, List.reverse_cons, List.reverse_nil, List.nil_append, List.cons_append, List.getD_cons_succ, List.getD_cons_zero, List.getD_nil, List.length_cons, List.length_nil, List.map_cons, List.map_nil, List.sum_cons, List.sum_nil, Nat.reduceAdd, Nat.reduceLeDiff, Value.category, Option.toList, true_or, or_true, z_ua, ↓reduceIte, Nat.reduceEqDiff, eq_self, not_true_eq_false, not_false_eq_true, false_implies, true_implies, Classical.not_not, Nat.le_refl, Nat.zero_le, sK60 hS]
        try dsimp only
        exact hQ _ _ ⟨hf.tr (x_rf_f I' _ _ h2).rg, rfl, h0.f 3⟩
      · have n12 : ¬ nI D.length = 12 := fun q => h12 ((nI_eq (b := 12) (by omega) (by omega)).mp q)
        rw [r_rd, if_neg hk0, if_neg h12] at hQ
        refine zW_ok hj B59_28 28 _ _ _ _ _ b59_28 ?_
        simp only [B59_28, zW, z_wp1, z_ld, z_f0, z_f1, z_f2, z_f3, List.getElem?_cons_zero, List.getElem?_cons_succ, true_and, and_true, Int32.reduceOfInt, z_i10, z_i01, Int32.reduceLT, Int32.reduceLE, Int32.reduceAdd, Int32.reduceSub, z_set, z_set2, z_kil, List.set_cons_zero, List.set_cons_succ, List.take_succ_cons, List.take_zero, List.drop_succ_cons, List.drop_zero, List.reverse_cons, List.reverse_nil, List.nil_append, List.cons_append, List.getD_cons_succ, List.getD_cons_zero, List.getD_nil, List.length_cons, List.length_nil, List.map_cons, List.map_nil, List.sum_cons, List.sum_nil, Nat.reduceAdd, Nat.reduceLeDiff, Value.category, Option.toList, true_or, or_true, z_ua, ↓reduceIte, Nat.reduceEqDiff, eq_self, not_true_eq_false, not_false_eq_true, false_implies, true_implies, Classical.not_not, Nat.le_refl, Nat.zero_le, nlt, sK60 hS, sG60_0 hS, sK61 hS, sK61 hS, hkd, hk0, n12]
        try dsimp only
        refine zW_ok hj B59_56 56 _ _ _ _ _ b59_56 ?_
        simp only [B59_56, zW, z_wp1, z_ld, z_f0, z_f1, z_f2, z_f3, List.getElem?_cons_zero, List.getElem?_cons_succ, true_and, and_true, Int32.reduceOfInt, z_i10, z_i01, Int32.reduceLT, Int32.reduceLE, Int32.reduceAdd, Int32.reduceSub, z_set, z_set2, z_kil, List.set_cons_zero, List.set_cons_succ, List.take_succ_cons, List.take_zero, List.drop_succ_cons, List.drop_zero, List.reverse_cons, List.reverse_nil, List.nil_append, List.cons_append, List.getD_cons_succ, List.getD_cons_zero, List.getD_nil, List.length_cons, List.length_nil, List.map_cons, List.map_nil, List.sum_cons, List.sum_nil, Nat.reduceAdd, Nat.reduceLeDiff, Value.category, Option.toList, true_or, or_true, z_ua, ↓reduceIte, Nat.reduceEqDiff, eq_self, not_true_eq_false, not_false_eq_true, false_implies, true_implies, Classical.not_not, Nat.le_refl, Nat.zero_le, sK60 hS]
        try dsimp only
        have c61' := c61 (l := X.1) (n := n) (J := J) (d := 8) (o := 0) he (c62 he 8) (by omega) hr
        refine z_callQ c61' (by omega) (by omega) (by omega) (Nat.le_of_ble_eq_true rfl) ?_
        rintro r h' ⟨I2, rfl, f2, e2⟩
        have f12 : x_rg I I2 cd := hf.tr f2.rg
        rcases x_re_q e2 with ⟨e, hR, rfl, q1, q2⟩ | ⟨y, hR, rfl, zs, rd2, hz, hl2⟩
        · rw [hR] at hQ
          simp only [zW, z_wp1, z_ld, z_f0, z_f1, z_f2, z_f3, List.getElem?_cons_zero, List.getElem?_cons_succ, true_and, and_true, Int32.reduceOfInt, z_i10, z_i01, Int32.reduceLT, Int32.reduceLE, Int32.reduceAdd, Int32.reduceSub, z_set, z_set2, z_kil, List.set_cons_zero, List.set_cons_succ, List.take_succ_cons, List.take_zero, List.drop_succ_cons, List.drop_zero, List.reverse_cons, List.reverse_nil, List.nil_append, List.cons_append, List.getD_cons_succ, List.getD_cons_zero, List.getD_nil, List.length_cons, List.length_nil, List.map_cons, List.map_nil, List.sum_cons, List.sum_nil, Nat.reduceAdd, Nat.reduceLeDiff, Value.category, Option.toList, true_or, or_true, z_ua, ↓reduceIte, Nat.reduceEqDiff, eq_self, not_true_eq_false, not_false_eq_true, false_implies, true_implies, Classical.not_not, Nat.le_refl, Nat.zero_le]
          try dsimp only
          exact hQ _ _ ⟨f12, rfl, q1, q2⟩
        · rw [hR] at hQ
          dsimp only at hQ
          have hkd2 : I2 61 5 = p_K t N y.1 := rd2.1.2.2.2.1
          simp only [zW, z_wp1, z_ld, z_f0, z_f1, z_f2, z_f3, List.getElem?_cons_zero, List.getElem?_cons_succ, true_and, and_true, Int32.reduceOfInt, z_i10, z_i01, Int32.reduceLT, Int32.reduceLE, Int32.reduceAdd, Int32.reduceSub, z_set, z_set2, z_kil, List.set_cons_zero, List.set_cons_succ, List.take_succ_cons, List.take_zero, List.drop_succ_cons, List.drop_zero, List.reverse_cons, List.reverse_nil, List.nil_append, List.cons_append, List.getD_cons_succ, List.getD_cons_zero, List.getD_nil, List.length_cons, List.length_nil, List.map_cons, List.map_nil, List.sum_cons, List.sum_nil, Nat.reduceAdd, Nat.reduceLeDiff, Value.category, Option.toList, true_or, or_true, z_ua, ↓reduceIte, Nat.reduceEqDiff, eq_self, not_true_eq_false, not_false_eq_true, false_implies, true_implies, Classical.not_not, Nat.le_refl, Nat.zero_le]
          try dsimp only
          by_cases k2 : p_K t N y.1 = 2
          · have hk2 : ¬ p_K t N y.1 = 0 := by rw [k2]; decide
            rw [if_pos k2] at hQ
            have h32 : I2 cd 3 = nI D.length := by rw [f2.2.2.2 3 (by decide)]; exact h3
            have l2 : I2 cd 1 = nI (D.flatten ++ zs).length := rd2.2.1.1
            have ce := c50 (l := X.1) (n := n) (I := I2) (J := J) (XQ_of hS h2) h32 (by omega)
            rw [l2] at ce
            refine zW_ok hj B59_66 66 _ _ _ _ _ b59_66 ?_
            simp only [B59_66, zW, z_wp1, z_ld, z_f0, z_f1, z_f2, z_f3, List.getElem?_cons_zero, List.getElem?_cons_succ, true_and, and_true, Int32.reduceOfInt, z_i10, z_i01, Int32.reduceLT, Int32.reduceLE, Int32.reduceAdd, Int32.reduceSub, z_set, z_set2, z_kil, List.set_cons_zero, List.set_cons_succ, List.take_succ_cons, List.take_zero, List.drop_succ_cons, List.drop_zero, List.reverse_cons, List.reverse_nil, List.nil_append, List.cons_append, List.getD_cons_succ, List.getD_cons_zero, List.getD_nil, List.length_cons, List.length_nil, List.map_cons, List.map_nil, List.sum_cons, List.sum_nil, Nat.reduceAdd, Nat.reduceLeDiff, Value.category, Option.toList, true_or, or_true, z_ua, ↓reduceIte, Nat.reduceEqDiff, eq_self, not_true_eq_false, not_false_eq_true, false_implies, true_implies, Classical.not_not, Nat.le_refl, Nat.zero_le, sK60 hS, sG60_0 hS, sK61 hS, sK61 hS, hkd2, k2]
            try dsimp only
            refine zW_ok hj B59_83 83 _ _ _ _ _ b59_83 ?_
            simp only [B59_83, zW, z_wp1, z_ld, z_f0, z_f1, z_f2, z_f3, List.getElem?_cons_zero, List.getElem?_cons_succ, true_and, and_true, Int32.reduceOfInt, z_i10, z_i01, Int32.reduceLT, Int32.reduceLE, Int32.reduceAdd, Int32.reduceSub, z_set, z_set2, z_kil, List.set_cons_zero, List.set_cons_succ, List.take_succ_cons, List.take_zero, List.drop_succ_cons, List.drop_zero, List.reverse_cons, List.reverse_nil, List.nil_append, List.cons_append, List.getD_cons_succ, List.getD_cons_zero, List.getD_nil, List.length_cons, List.length_nil, List.map_cons, List.map_nil, List.sum_cons, List.sum_nil, Nat.reduceAdd, Nat.reduceLeDiff, Value.category, Option.toList, true_or, or_true, z_ua, ↓reduceIte, Nat.reduceEqDiff, eq_self, not_true_eq_false, not_false_eq_true, false_implies, true_implies, Classical.not_not, Nat.le_refl, Nat.zero_le, sK60 hS, hG, hK]
            try dsimp only
            refine z_callD (ce) (by omega) (by omega) (by omega) (Nat.le_of_ble_eq_true rfl) ?_
            try simp only [zW, z_wp1, z_ld, z_f0, z_f1, z_f2, z_f3, List.getElem?_cons_zero, List.getElem?_cons_succ, true_and, and_true, Int32.reduceOfInt, z_i10, z_i01, Int32.reduceLT, Int32.reduceLE, Int32.reduceAdd, Int32.reduceSub, z_set, z_set2, z_kil, List.set_cons_zero, List.set_cons_succ, List.take_succ_cons, List.take_zero, List.drop_succ_cons, List.drop_zero, List.reverse_cons, List.reverse_nil, List.nil_append, List.cons_append, List.getD_cons_succ, List.getD_cons_zero, List.getD_nil, List.length_cons, List.length_nil, List.map_cons, List.map_nil, List.sum_cons, List.sum_nil, Nat.reduceAdd, Nat.reduceLeDiff, Value.category, Option.toList, true_or, or_true, z_ua, ↓reduceIte, Nat.reduceEqDiff, eq_self, not_true_eq_false, not_false_eq_true, false_implies, true_implies, Classical.not_not, Nat.le_refl, Nat.zero_le, sK60 hS, sG60_0 hS, sK61 hS, sK61 hS]
            try dsimp only
            generalize hI3 : z_u (z_u I2 (cd + 2) D.length (nI (D.flatten ++ zs).length)) cd 3 (nI (D.length + 1)) = I3
            have o3 : ∀ q, q ≠ cd → q ≠ cd + 2 → I3 q = I2 q := fun q a b => by rw [← hI3, z_u_ne a, z_u_ne b]
            have r3 : x_r0 I3 t N M y.1 := by
              obtain ⟨⟨u1, u2, u3, u4, u5, u6⟩, g2, g3, g4, g5, g6, g7, g8⟩ := rd2.1
              exact ⟨⟨by rw [o3 61 (by omega) (by omega)]; exact u1, u2, fun j hj => by rw [o3 62 (by omega) (by omega), o3 63 (by omega) (by omega)]; exact u3 j hj, fun j hj => by rw [o3 64 (by omega) (by omega)]; exact u4 j hj, u5, u6⟩, g2, by rw [o3 61 (by omega) (by omega)]; exact g3, by rw [o3 61 (by omega) (by omega)]; exact g4, by rw [o3 61 (by omega) (by omega)]; exact g5, by rw [o3 61 (by omega) (by omega)]; exact g6, by rw [o3 60 (by omega) (by omega)]; exact g7, by rw [o3 60 (by omega) (by omega)]; exact g8⟩
            have c3 : x_cd' I3 cd (D.flatten ++ zs) := ⟨by rw [← hI3, z_u_at, if_neg (by decide), z_u_ne (by omega)]; exact l2, fun j x hj => by rw [o3 (cd + 1) (by omega) (by omega)]; exact rd2.2.1.2 j x hj⟩
            have f3 : x_rg I2 I3 cd := ⟨fun q _ _ _ _ _ a _ b => o3 q a b, fun k _ b => by rw [← hI3, z_u_at, if_neg b, z_u_ne (by omega)]⟩
            refine z_callQ (c107x (J := J) hS r3 c3 h2 hk2) (by omega) (by omega) (by omega) (Nat.le_of_ble_eq_true rfl) ?_
            rintro r h' ⟨rfl, I4, rfl, f4, r4, c4, -⟩
            simp only [zW, z_wp1, z_ld, z_f0, z_f1, z_f2, z_f3, List.getElem?_cons_zero, List.getElem?_cons_succ, true_and, and_true, Int32.reduceOfInt, z_i10, z_i01, Int32.reduceLT, Int32.reduceLE, Int32.reduceAdd, Int32.reduceSub, z_set, z_set2, z_kil, List.set_cons_zero, List.set_cons_succ, List.take_succ_cons, List.take_zero, List.drop_succ_cons, List.drop_zero, List.reverse_cons, List.reverse_nil, List.nil_append, List.cons_append, List.getD_cons_succ, List.getD_cons_zero, List.getD_nil, List.length_cons, List.length_nil, List.map_cons, List.map_nil, List.sum_cons, List.sum_nil, Nat.reduceAdd, Nat.reduceLeDiff, Value.category, Option.toList, true_or, or_true, z_ua, ↓reduceIte, Nat.reduceEqDiff, eq_self, not_true_eq_false, not_false_eq_true, false_implies, true_implies, Classical.not_not, Nat.le_refl, Nat.zero_le, nI_1]
            try dsimp only
            have hlen : (D ++ [zs]).length = D.length + 1 := by rw [List.length_append]; rfl
            have hfl : (D ++ [zs]).flatten = D.flatten ++ zs := by rw [List.flatten_append]; simp
            have hle2 := rd2.2.2
            have key := ih (y.1 + 1) (D ++ [zs]) I4 (by omega) (by omega) (by rw [hfl]; exact ⟨r4, c4, by omega⟩) ?_ ?_ ((f12.tr f3).tr f4.rg) (fun r I5 q => hQ r I5 ?_)
            · rw [hlen] at key
              exact key
            · rw [f4.2.2.2 3 (by decide), ← hI3, z_u_at, if_pos rfl, hlen]
            · have e4 : I4 (cd + 2) = I3 (cd + 2) := f4.1 (cd + 2) (by omega) (by omega) (by omega) (by omega)
              intro k' hk'
              rw [e4, ← hI3, z_u_ne (by omega), z_u_at]
              by_cases z : k' = D.length
              · subst z
                rw [if_pos rfl, List.take_of_length_le (by omega), hfl]
              · rw [if_neg z, List.take_append_of_le_length (by omega), f2.1 (cd + 2) (by omega) (by omega) (by omega) (by omega)]
                exact hmk k' (by omega)
            · rw [hlen] at q
              cases hz' : r_rd (p_K t N) (p_A t N) k (D.length + 1) (y.1 + 1) with
              | error e => rw [hz'] at q; exact q
              | ok Z =>
                rw [hz'] at q
                obtain ⟨q1, q2, ZX, q3, q4⟩ := q
                refine ⟨q1, q2, zs :: ZX, ⟨by rw [List.map_cons, q3.1, hz.1], fun z hz' => (List.mem_cons.mp hz').elim (fun q => by rw [q]; exact hz.2) (q3.2 z)⟩, ?_⟩
                simpa [List.append_assoc] using q4
          · rw [if_neg k2] at hQ
            refine zW_ok hj B59_66 66 _ _ _ _ _ b59_66 ?_
            simp only [B59_66, zW, z_wp1, z_ld, z_f0, z_f1, z_f2, z_f3, List.getElem?_cons_zero, List.getElem?_cons_succ, true_and, and_true, Int32.reduceOfInt, z_i10, z_i01, Int32.reduceLT, Int32.reduceLE, Int32.reduceAdd, Int32.reduceSub, z_set, z_set2, z_kil, List.set_cons_zero, List.set_cons_succ, List.take_succ_cons, List.take_zero, List.drop_succ_cons, List.drop_zero, List.reverse_cons, List.reverse_nil, List.nil_append, List.cons_append, List.getD_cons_succ, List.getD_cons_zero, List.getD_nil, List.length_cons, List.length_nil, List.map_cons, List.map_nil, List.sum_cons, List.sum_nil, Nat.reduceAdd, Nat.reduceLeDiff, Value.category, Option.toList, true_or, or_true, z_ua, ↓reduceIte, Nat.reduceEqDiff, eq_self, not_true_eq_false, not_false_eq_true, false_implies, true_implies, Classical.not_not, Nat.le_refl, Nat.zero_le, sK60 hS, sG60_0 hS, sK61 hS, sK61 hS, hkd2, k2]
            try dsimp only
            refine z_callD (c71 (I := I2) (J := J) hS 1) (by omega) (by omega) (by omega) (Nat.le_of_ble_eq_true rfl) ?_
            try simp only [zW, z_wp1, z_ld, z_f0, z_f1, z_f2, z_f3, List.getElem?_cons_zero, List.getElem?_cons_succ, true_and, and_true, Int32.reduceOfInt, z_i10, z_i01, Int32.reduceLT, Int32.reduceLE, Int32.reduceAdd, Int32.reduceSub, z_set, z_set2, z_kil, List.set_cons_zero, List.set_cons_succ, List.take_succ_cons, List.take_zero, List.drop_succ_cons, List.drop_zero, List.reverse_cons, List.reverse_nil, List.nil_append, List.cons_append, List.getD_cons_succ, List.getD_cons_zero, List.getD_nil, List.length_cons, List.length_nil, List.map_cons, List.map_nil, List.sum_cons, List.sum_nil, Nat.reduceAdd, Nat.reduceLeDiff, Value.category, Option.toList, true_or, or_true, z_ua, ↓reduceIte, Nat.reduceEqDiff, eq_self, not_true_eq_false, not_false_eq_true, false_implies, true_implies, Classical.not_not, Nat.le_refl, Nat.zero_le, sK60 hS]
            try dsimp only
            exact hQ _ _ ⟨f12.tr (x_rf_f I2 _ _ h2).rg, rfl, rd2.1.f 1⟩
/-- readText -/
theorem c59 (he : x_en K L G t N cd) (hN8 : N ≤ 800) (ht : I 59 = t) (hch2 : ∀ k, k < N → t k ≤ 255) : z_Ctr l 30 59 [.ref 60, .ref 59, .int (nI N)] (n, K, L, I, J, G) 0 0 (fun r h' => ∃ I', h' = (n, K, L, I', J, G) ∧ x_rr I t N cd [] (r_rd (p_K t N) (p_A t N) 13 0 0) r I') := by
  obtain ⟨hS, h2, hG, hK, hch⟩ := id he
  refine z_ctr (by decide) (by decide +kernel) (Nat.le_of_ble_eq_true rfl) (by decide +kernel) (fun X hl hj hd hm hs hsc hQ => ?_)
  show zV X 0 [some (.ref 60), some (.ref 59), some (.int (nI N)), none] [] _ 0 0
  subst hl
  refine zW_ok hj B59_0 0 _ _ _ _ _ b59_0 ?_
  simp only [B59_0, zW, z_wp1, z_ld, z_f0, z_f1, z_f2, z_f3, List.getElem?_cons_zero, List.getElem?_cons_succ, true_and, and_true, Int32.reduceOfInt, z_i10, z_i01, Int32.reduceLT, Int32.reduceLE, Int32.reduceAdd, Int32.reduceSub, z_set, z_set2, z_kil, List.set_cons_zero, List.set_cons_succ, List.take_succ_cons, List.take_zero, List.drop_succ_cons, List.drop_zero, List.reverse_cons, List.reverse_nil, List.nil_append, List.cons_append, List.getD_cons_succ, List.getD_cons_zero, List.getD_nil, List.length_cons, List.length_nil, List.map_cons, List.map_nil, List.sum_cons, List.sum_nil, Nat.reduceAdd, Nat.reduceLeDiff, Value.category, Option.toList, true_or, or_true, z_ua, ↓reduceIte, Nat.reduceEqDiff, eq_self, not_true_eq_false, not_false_eq_true, false_implies, true_implies, Classical.not_not, Nat.le_refl, Nat.zero_le, sK60 hS, hG, hK]
  try dsimp only
  refine z_callD (c48 (I := I) (J := J) (XQ_of hS h2)) (by omega) (by omega) (by omega) (Nat.le_of_ble_eq_true rfl) ?_
  try simp only [zW, z_wp1, z_ld, z_f0, z_f1, z_f2, z_f3, List.getElem?_cons_zero, List.getElem?_cons_succ, true_and, and_true, Int32.reduceOfInt, z_i10, z_i01, Int32.reduceLT, Int32.reduceLE, Int32.reduceAdd, Int32.reduceSub, z_set, z_set2, z_kil, List.set_cons_zero, List.set_cons_succ, List.take_succ_cons, List.take_zero, List.drop_succ_cons, List.drop_zero, List.reverse_cons, List.reverse_nil, List.nil_append, List.cons_append, List.getD_cons_succ, List.getD_cons_zero, List.getD_nil, List.length_cons, List.length_nil, List.map_cons, List.map_nil, List.sum_cons, List.sum_nil, Nat.reduceAdd, Nat.reduceLeDiff, Value.category, Option.toList, true_or, or_true, z_ua, ↓reduceIte, Nat.reduceEqDiff, eq_self, not_true_eq_false, not_false_eq_true, false_implies, true_implies, Classical.not_not, Nat.le_refl, Nat.zero_le, sK60 hS, sG60_0 hS, sK61 hS, sK61 hS]
  try dsimp only
  generalize hI1 : z_u (z_u (z_u (z_u I cd 1 0) cd 3 0) 60 2 0) 60 3 (-1) = I1
  have o1 : ∀ q, q ≠ 60 → q ≠ cd → I1 q = I q := fun q a b => by rw [← hI1, z_u_ne a, z_u_ne a, z_u_ne b, z_u_ne b]
  have g1 : I1 60 2 = 0 ∧ I1 60 3 = -1 := ⟨by rw [← hI1, z_u_at, if_neg (by decide), z_u_at, if_pos rfl], by rw [← hI1, z_u_at, if_pos rfl]⟩
  have d1 : I1 cd 1 = 0 := by rw [← hI1, z_u_ne (by omega), z_u_ne (by omega), z_u_at, if_neg (by decide), z_u_at, if_pos rfl]
  have d3 : I1 cd 3 = 0 := by rw [← hI1, z_u_ne (by omega), z_u_ne (by omega), z_u_at, if_pos rfl]
  have f1 : x_rg I I1 cd := ⟨fun q a _ _ _ _ b _ _ => o1 q a b, fun k a b => by rw [← hI1, z_u_ne (by omega), z_u_ne (by omega), z_u_at, if_neg b, z_u_at, if_neg a]⟩
  refine z_callQ (c106 (J := J) (t := t) hS g1 hN8 (by rw [o1 59 (by decide) (by omega)]; exact ht) (fun k hk => ⟨hch k hk, hch2 k hk⟩)) (by omega) (by omega) (by omega) (Nat.le_of_ble_eq_true rfl) ?_
  rintro r h' ⟨rfl, M, I2, rfl, r2, f2⟩
  simp only [zW, z_wp1, z_ld, z_f0, z_f1, z_f2, z_f3, List.getElem?_cons_zero, List.getElem?_cons_succ, true_and, and_true, Int32.reduceOfInt, z_i10, z_i01, Int32.reduceLT, Int32.reduceLE, Int32.reduceAdd, Int32.reduceSub, z_set, z_set2, z_kil, List.set_cons_zero, List.set_cons_succ, List.take_succ_cons, List.take_zero, List.drop_succ_cons, List.drop_zero, List.reverse_cons, List.reverse_nil, List.nil_append, List.cons_append, List.getD_cons_succ, List.getD_cons_zero, List.getD_nil, List.length_cons, List.length_nil, List.map_cons, List.map_nil, List.sum_cons, List.sum_nil, Nat.reduceAdd, Nat.reduceLeDiff, Value.category, Option.toList, true_or, or_true, z_ua, ↓reduceIte, Nat.reduceEqDiff, eq_self, not_true_eq_false, not_false_eq_true, false_implies, true_implies, Classical.not_not, Nat.le_refl, Nat.zero_le]
  try dsimp only
  have o2 : I2 cd = I1 cd := f2 cd (by omega) (by omega) (by omega) (by omega)
  have key := c59_loop (I := I) (n := n) (J := J) (M := M) he hj hd hm hs 13 0 [] I2 (by simp) (by simp) ⟨r2, ⟨by rw [o2, d1]; rfl, fun j x hj => by simp at hj⟩, by simp⟩ (by rw [o2, d3]; rfl) (fun k hk => by simp at hk) (f1.tr ⟨fun q _ a b c d _ _ _ => f2 q a b c d, fun k _ _ => by rw [o2]⟩) (fun r I3 q => hQ _ _ ⟨I3, rfl, q⟩)
  exact key
end XRD6
