/-! The public methods: scales -/
section PUB9
variable {l : Launch} {n : Nat} {K L : Nat → Nat} {I I' : Nat → Nat → Int32} {J : Nat → Nat → Int64} {G G' : Nat → Nat → Value} {M M' : Nat → Nat → Int32} {c F N c' F' N' : Nat} {tr tr' : Nat → (Int32 → Int32) → Int32} {cd cd' : Nat} {D : Nat → Nat} {ch rr : Nat}
/-- exchange -/
theorem c60 (hS : SS K L G) {q q0 : Nat} (h : G 60 1 = .ref q0) (hK : K q = 5) (hK0 : K q0 = 5) : z_D l 0 60 [.ref 60, .ref q] (n, K, L, I, J, G) (some (.ref q0)) (n, K, L, I, J, z_u G 60 1 (.ref q)) := by
  refine z_ctr (by decide) (by decide +kernel) (Nat.le_of_ble_eq_true rfl) (by decide +kernel) (fun X hl hj hd hm hs hsc hQ => ?_)
  show zV X 0 [some (.ref 60), some (.ref q), none] [] _ 0 0
  refine zW_ok hj B60_0 0 _ _ _ _ _ b60_0 ?_
  simp only [B60_0, zW, z_wp1, z_ld, z_f0, z_f1, z_f2, z_f3, List.getElem?_cons_zero, List.getElem?_cons_succ, true_and, and_true, Int32.reduceOfInt, z_i10, z_i01, Int32.reduceLT, Int32.reduceLE, Int32.reduceAdd, Int32.reduceSub, z_set, z_set2, z_kil, List.set_cons_zero, List.set_cons_succ, List.take_succ_cons, List.take_zero, List.drop_succ_cons, List.drop_zero, List.reverse_cons, List.reverse_nil, List.nil_append, List.cons_append, List.getD_cons_succ, List.getD_cons_zero, List.getD_nil, List.length_cons, List.length_nil, List.map_cons, List.map_nil, List.sum_cons, List.sum_nil, Nat.reduceAdd, Nat.reduceLeDiff, Value.category, Option.toList, true_or, or_true, z_ua, ↓reduceIte, Nat.reduceEqDiff, eq_self, not_true_eq_false, not_false_eq_true, false_implies, true_implies, Classical.not_not, Nat.le_refl, Nat.zero_le, sK60 hS, h, hK, hK0]
  try dsimp only
  exact hQ _ _ ⟨rfl, rfl⟩
theorem SS.x60 (hS : SS K L G) (q : Nat) : SS K L (z_u G 60 1 (.ref q)) := ⟨hS.1, hS.2.1, fun t ht => by
  have h := hS.2.2 t ht
  have hne : ¬ (t.1 = 60 ∧ t.2.1 = 1) := co_mem2 t ht
  rw [z_ua]
  by_cases e1 : t.1 = 60
  · rw [if_pos e1, if_neg (fun e2 => hne ⟨e1, e2⟩), ← e1]
    exact h
  · rw [if_neg e1]
    exact h⟩
theorem SS.x10 (hS : SS K L G) (q : Nat) : SS K L (z_u G 10 4 (.ref q)) := ⟨hS.1, hS.2.1, fun t ht => by
  have h := hS.2.2 t ht
  have hne : ¬ (t.1 = 10 ∧ t.2.1 = 4) := co_mem t ht
  rw [z_ua]
  by_cases e1 : t.1 = 10
  · rw [if_pos e1, if_neg (fun e2 => hne ⟨e1, e2⟩), ← e1]
    exact h
  · rw [if_neg e1]
    exact h⟩
theorem x_rd_en (hx : XI n K L I J G M c F N tr cd D ch rr) (T : Nat) : x_en K L G (M 77) T (77 - cd) := by
  have hcd : cd = 12 ∨ cd = 65 := hx.1.2.1.1
  have h2 : 77 - cd = 12 ∨ 77 - cd = 65 := by omega
  exact ⟨hx.S, h2, hx.1.2.1.2.2, (XQ_of hx.S h2).1, fun k _ => (hx.2.2.2.2.1.2.2.2 k).1⟩
/-- scales that are refused -/
theorem d122a (hx : XI n K L I J G M c F N tr cd D ch rr) (hr : rr < 600) {T : Nat} (hT : M 71 11 = nI T) (hT8 : T ≤ 800) {e : Int32 × Nat} (hR : r_rd (p_K (M 77) T) (p_A (M 77) T) 13 0 0 = .error e) : z_Ctr l 32 122 [.ref 5] (n, K, L, I, J, G) 0 0 (x_pq n I J (fun M' => ∃ r, m_sc M (M 77) T (.error e) r M') c F N tr (rr + 1) (x_u L D) (.int (-1))) := by
  have hS : SS K L G := hx.S
  have hcd : cd = 12 ∨ cd = 65 := hx.1.2.1.1
  have htp := hx.2.2.2.2.1
  have t0 : I 5 8 = nI T := by rw [htp.1]; exact hT
  refine z_ctr (by decide) (by decide +kernel) (Nat.le_of_ble_eq_true rfl) (by decide +kernel) (fun X hl hj hd hm hs hsc hQ => ?_)
  show zV X 0 [some (.ref 5), none] [] _ 0 0
  subst hl
  refine zW_ok hj B122_0 0 _ _ _ _ _ b122_0 ?_
  simp only [B122_0, zW, z_wp1, z_ld, z_f0, z_f1, z_f2, z_f3, List.getElem?_cons_zero, List.getElem?_cons_succ, true_and, and_true, Int32.reduceOfInt, z_i10, z_i01, Int32.reduceLT, Int32.reduceLE, Int32.reduceAdd, Int32.reduceSub, z_set, z_set2, z_kil, List.set_cons_zero, List.set_cons_succ, List.take_succ_cons, List.take_zero, List.drop_succ_cons, List.drop_zero, List.reverse_cons, List.reverse_nil, List.nil_append, List.cons_append, List.getD_cons_succ, List.getD_cons_zero, List.getD_nil, List.length_cons, List.length_nil, List.map_cons, List.map_nil, List.sum_cons, List.sum_nil, Nat.reduceAdd, Nat.reduceLeDiff, Value.category, Option.toList, true_or, or_true, z_ua, ↓reduceIte, Nat.reduceEqDiff, eq_self, not_true_eq_false, not_false_eq_true, false_implies, true_implies, Classical.not_not, Nat.le_refl, Nat.zero_le, sK5 hS, sG5_9 hS, sK60 hS, sG5_7 hS, sK59 hS, sL59 hS, t0]
  try dsimp only
  refine z_callQ (c59 (n := n) (J := J) (I := I) (x_rd_en hx T) hT8 htp.2.2.1 (fun k _ => (htp.2.2.2 k).2)) (by omega) (by omega) (by omega) (Nat.le_of_ble_eq_true rfl) ?_
  rintro r h' ⟨I1, rfl, rg, q⟩
  rw [hR] at q
  obtain ⟨rfl, q1, q2⟩ := q
  simp only [zW, z_wp1, z_ld, z_f0, z_f1, z_f2, z_f3, List.getElem?_cons_zero, List.getElem?_cons_succ, true_and, and_true, Int32.reduceOfInt, z_i10, z_i01, Int32.reduceLT, Int32.reduceLE, Int32.reduceAdd, Int32.reduceSub, z_set, z_set2, z_kil, List.set_cons_zero, List.set_cons_succ, List.take_succ_cons, List.take_zero, List.drop_succ_cons, List.drop_zero, List.reverse_cons, List.reverse_nil, List.nil_append, List.cons_append, List.getD_cons_succ, List.getD_cons_zero, List.getD_nil, List.length_cons, List.length_nil, List.map_cons, List.map_nil, List.sum_cons, List.sum_nil, Nat.reduceAdd, Nat.reduceLeDiff, Value.category, Option.toList, true_or, or_true, z_ua, ↓reduceIte, Nat.reduceEqDiff, eq_self, not_true_eq_false, not_false_eq_true, false_implies, true_implies, Classical.not_not, Nat.le_refl, Nat.zero_le, sK5 hS]
  try dsimp only
  have o1 : ∀ q, q ≠ 5 → ¬ (60 ≤ q ∧ q ≤ 64) → ¬ (77 - cd ≤ q ∧ q ≤ 77 - cd + 2) → z_u I1 5 8 0 q = I q := fun q h1 h2 h3 => by rw [z_u_ne h1]; exact rg.1 q (by omega) (by omega) (by omega) (by omega) (by omega) (by omega) (by omega) (by omega)
  refine hQ _ _ ⟨rfl, n, K, L, z_u I1 5 8 0, J, G, cd, D, ch, rfl, fun M' hP => ?_, hS, Nat.le_refl _, fun q a b => ⟨o1 q (by omega) (by omega) (by omega), rfl⟩, Nat.le_refl _⟩
  obtain ⟨r, mf, m1, -, m2, m3, m4, m5, m6⟩ := hP
  have gk : ∀ k, mQ k → ¬ (k = 11 ∨ k = 28 ∨ k = 29 ∨ k = 17) → M' 71 k = M 71 k := fun k hk hn => mf.2 k (by unfold mQ at hk; omega) (by omega) (by omega) (by omega) (by omega) (by unfold mQ at hk; omega) (by unfold mQ at hk; omega) (by unfold mQ at hk; omega) (by unfold mQ at hk; omega) (by unfold mQ at hk; omega) (by unfold mQ at hk; omega) (by unfold mQ at hk; omega) (by unfold mQ at hk; omega) (by unfold mQ at hk; omega)
  have gq : ∀ q, (72 ≤ q ∧ q ≤ 78) ∨ (90 ≤ q ∧ q ≤ 92) ∨ q = 97 → M' q = M q := fun q hq => mf.1 q (by omega) (by omega) (by omega) (by omega) (by omega) (by omega)
  have hsc : m_scale M' N tr := by
    obtain ⟨s1, s2, s3⟩ := hx.2.1.1.2.2.2.2
    refine ⟨by rw [m4]; exact s1, s2, fun i hi => ?_⟩
    obtain ⟨cs, ⟨a, b1, b2, b3, b4⟩, b5⟩ := s3 i hi
    refine ⟨cs, ⟨a, by rw [(m6 i (by omega)).1]; exact b1, by rw [(m6 i (by omega)).2]; exact b2, b3, fun t x ht => ?_⟩, b5⟩
    have hlt := (List.getElem?_eq_some_iff.mp ht).1
    rw [(m5 (a + t) (by omega)).1, (m5 (a + t) (by omega)).2]
    exact b4 t x ht
  refine (hx.up hr).tp (fun q h1 h2 => o1 q h1 (by omega) (by omega)) ⟨by rw [o1 cd (by omega) (by omega) (by omega)], o1 _ (by omega) (by omega) (by omega), o1 _ (by omega) (by omega) (by omega)⟩ ⟨fun q hq hn => gq q (by omega), gk⟩ hsc ⟨by rw [m1, z_u_at, if_pos rfl], ⟨0, by omega, m1⟩, by rw [o1 59 (by omega) (by omega) (by omega), gq 77 (by omega)]; exact htp.2.2.1, by rw [gq 77 (by omega)]; exact htp.2.2.2⟩ ⟨by rw [m2, z_u_ne (by decide)]; exact q1, by rw [m3, z_u_ne (by decide)]; exact q2⟩
/-- a mark's codes where the reader has left them -/
theorem x_mk.code {ZX : List (List (Int32 × Int32))} (hm : x_mk I cd ZX) (hc : x_cd' I cd ZX.flatten) (h8 : ZX.flatten.length ≤ 800) {i : Nat} {zs : List (Int32 × Int32)} (hi : ZX[i]? = some zs) : x_code I cd i zs := by
  have hlt := (List.getElem?_eq_some_iff.mp hi).1
  have e0 : (ZX.take (i + 1)).flatten.length = (ZX.take i).flatten.length + zs.length := by
    rw [List.take_succ, hi]
    simp
  obtain ⟨p1, p2⟩ := p_take_le hi
  refine ⟨(ZX.take i).flatten.length, ?_, by rw [hm i hlt, e0], by omega, fun t x ht => hc.2 _ _ (p2 t x ht)⟩
  by_cases z : i = 0
  · subst z
    simp [nI_0]
  · rw [if_neg z, hm (i - 1) (by omega), show i - 1 + 1 = i by omega]
/-- scales that are taken -/
theorem d122b (hx : XI n K L I J G M c F N tr cd D ch rr) (hr : rr < 600) {T : Nat} (hT : M 71 11 = nI T) (hT8 : T ≤ 800) {Z : List (List (Int32 × Int32))} (hR : r_rd (p_K (M 77) T) (p_A (M 77) T) 13 0 0 = .ok Z) : z_Ctr l 32 122 [.ref 5] (n, K, L, I, J, G) 0 0 (x_pq n I J (fun M' => ∃ r, m_sc M (M 77) T (.ok Z) r M') c F Z.length (fun i kn => y_v (Z.getD i []) kn) (rr + 1) (x_u L D) (.int (nI Z.length))) := by
  have hS : SS K L G := hx.S
  have hcd : cd = 12 ∨ cd = 65 := hx.1.2.1.1
  have hcr : 77 - cd = 12 ∨ 77 - cd = 65 := by omega
  have htp := hx.2.2.2.2.1
  have t0 : I 5 8 = nI T := by rw [htp.1]; exact hT
  have hx0 := hx
  obtain ⟨h0, h1, h2, h3, h4, h5, -, -, -, -, -, -⟩ := hx
  obtain ⟨a1, a2, a3, a4, a5, a6, a7, a8, a9, a10⟩ := h3
  obtain ⟨s1, s2, s3, s4, s5⟩ := h1.1
  have hK : K cd = 5 := (XQ_of hS hcd).1
  have hKr : K (77 - cd) = 5 := (XQ_of hS hcr).1
  refine z_ctr (by decide) (by decide +kernel) (Nat.le_of_ble_eq_true rfl) (by decide +kernel) (fun X hl hj hd hm hs hsc hQ => ?_)
  show zV X 0 [some (.ref 5), none] [] _ 0 0
  subst hl
  refine zW_ok hj B122_0 0 _ _ _ _ _ b122_0 ?_
  simp only [B122_0, zW, z_wp1, z_ld, z_f0, z_f1, z_f2, z_f3, List.getElem?_cons_zero, List.getElem?_cons_succ, true_and, and_true, Int32.reduceOfInt, z_i10, z_i01, Int32.reduceLT, Int32.reduceLE, Int32.reduceAdd, Int32.reduceSub, z_set, z_set2, z_kil, List.set_cons_zero, List.set_cons_succ, List.take_succ_cons, List.take_zero, List.drop_succ_cons, List.drop_zero, List.reverse_cons, List.reverse_nil, List.nil_append, List.cons_append, List.getD_cons_succ, List.getD_cons_zero, List.getD_nil, List.length_cons, List.length_nil, List.map_cons, List.map_nil, List.sum_cons, List.sum_nil, Nat.reduceAdd, Nat.reduceLeDiff, Value.category, Option.toList, true_or, or_true, z_ua, ↓reduceIte, Nat.reduceEqDiff, eq_self, not_true_eq_false, not_false_eq_true, false_implies, true_implies, Classical.not_not, Nat.le_refl, Nat.zero_le, sK5 hS, sG5_9 hS, sK60 hS, sG5_7 hS, sK59 hS, sL59 hS, t0]
  try dsimp only
  refine z_callQ (c59 (n := n) (J := J) (I := I) (x_rd_en hx0 T) hT8 htp.2.2.1 (fun k _ => (htp.2.2.2 k).2)) (by omega) (by omega) (by omega) (Nat.le_of_ble_eq_true rfl) ?_
  rintro r h' ⟨I1, rfl, rg, q⟩
  rw [hR] at q
  obtain ⟨rfl, ZX, ⟨z1, z2⟩, q3, q4, q5, q6, q7, q8, q9⟩ := q
  rw [List.nil_append] at q3 q4 q5 q6 q7
  have hlen : ZX.length = Z.length := by rw [← z1, List.length_map]
  simp only [zW, z_wp1, z_ld, z_f0, z_f1, z_f2, z_f3, List.getElem?_cons_zero, List.getElem?_cons_succ, true_and, and_true, Int32.reduceOfInt, z_i10, z_i01, Int32.reduceLT, Int32.reduceLE, Int32.reduceAdd, Int32.reduceSub, z_set, z_set2, z_kil, List.set_cons_zero, List.set_cons_succ, List.take_succ_cons, List.take_zero, List.drop_succ_cons, List.drop_zero, List.reverse_cons, List.reverse_nil, List.nil_append, List.cons_append, List.getD_cons_succ, List.getD_cons_zero, List.getD_nil, List.length_cons, List.length_nil, List.map_cons, List.map_nil, List.sum_cons, List.sum_nil, Nat.reduceAdd, Nat.reduceLeDiff, Value.category, Option.toList, true_or, or_true, z_ua, ↓reduceIte, Nat.reduceEqDiff, eq_self, not_true_eq_false, not_false_eq_true, false_implies, true_implies, Classical.not_not, Nat.le_refl, Nat.zero_le, sK5 hS]
  try dsimp only
  generalize hI2 : z_u I1 5 8 0 = I2
  have o2 : ∀ q, q ≠ 5 → I2 q = I1 q := fun q h => by rw [← hI2, z_u_ne h]
  have o1 : ∀ q, q ≠ 5 → ¬ (60 ≤ q ∧ q ≤ 64) → ¬ (77 - cd ≤ q ∧ q ≤ 77 - cd + 2) → I2 q = I q := fun q h1 h2 h3 => by rw [o2 q h1]; exact rg.1 q (by omega) (by omega) (by omega) (by omega) (by omega) (by omega) (by omega) (by omega)
  have hcG : G 10 4 = .ref cd := h0.2.1.2.1
  have hrG : G 60 1 = .ref (77 - cd) := h0.2.1.2.2
  refine zW_ok hj B122_27 27 _ _ _ _ _ b122_27 ?_
  simp only [B122_27, zW, z_wp1, z_ld, z_f0, z_f1, z_f2, z_f3, List.getElem?_cons_zero, List.getElem?_cons_succ, true_and, and_true, Int32.reduceOfInt, z_i10, z_i01, Int32.reduceLT, Int32.reduceLE, Int32.reduceAdd, Int32.reduceSub, z_set, z_set2, z_kil, List.set_cons_zero, List.set_cons_succ, List.take_succ_cons, List.take_zero, List.drop_succ_cons, List.drop_zero, List.reverse_cons, List.reverse_nil, List.nil_append, List.cons_append, List.getD_cons_succ, List.getD_cons_zero, List.getD_nil, List.length_cons, List.length_nil, List.map_cons, List.map_nil, List.sum_cons, List.sum_nil, Nat.reduceAdd, Nat.reduceLeDiff, Value.category, Option.toList, true_or, or_true, z_ua, ↓reduceIte, Nat.reduceEqDiff, eq_self, not_true_eq_false, not_false_eq_true, false_implies, true_implies, Classical.not_not, Nat.le_refl, Nat.zero_le, sK5 hS, sG5_1 hS, sK10 hS, sG5_9 hS, sK60 hS, sK10 hS, hcG, hK]
  try dsimp only
  refine z_callD (c60 (n := n) (I := I2) (J := J) hS hrG hK hKr) (by omega) (by omega) (by omega) (Nat.le_of_ble_eq_true rfl) ?_
  try simp only [zW, z_wp1, z_ld, z_f0, z_f1, z_f2, z_f3, List.getElem?_cons_zero, List.getElem?_cons_succ, true_and, and_true, Int32.reduceOfInt, z_i10, z_i01, Int32.reduceLT, Int32.reduceLE, Int32.reduceAdd, Int32.reduceSub, z_set, z_set2, z_kil, List.set_cons_zero, List.set_cons_succ, List.take_succ_cons, List.take_zero, List.drop_succ_cons, List.drop_zero, List.reverse_cons, List.reverse_nil, List.nil_append, List.cons_append, List.getD_cons_succ, List.getD_cons_zero, List.getD_nil, List.length_cons, List.length_nil, List.map_cons, List.map_nil, List.sum_cons, List.sum_nil, Nat.reduceAdd, Nat.reduceLeDiff, Value.category, Option.toList, true_or, or_true, z_ua, ↓reduceIte, Nat.reduceEqDiff, eq_self, not_true_eq_false, not_false_eq_true, false_implies, true_implies, Classical.not_not, Nat.le_refl, Nat.zero_le, sK10 hS, hKr]
  try dsimp only
  have hS1 : SS K L (z_u G 60 1 (.ref cd)) := hS.x60 cd
  have e10 : I2 10 = I 10 := o1 10 (by omega) (by omega) (by omega)
  refine z_callQ (c94s (n := n) (I := I2) (J := J) (F := F) hS1 (by rw [e10]; exact a1) s4 (77 - cd) hKr) (by omega) (by omega) (by omega) (Nat.le_of_ble_eq_true rfl) ?_
  rintro r h' ⟨rfl, I3, rfl, v1, v2, v3⟩
  generalize hI4 : z_u I3 10 10 (I2 10 10 + 1) = I4
  generalize hG2 : z_u (z_u G 60 1 (.ref cd)) 10 4 (.ref (77 - cd)) = G2
  have hS2 : SS K L G2 := by rw [← hG2]; exact hS1.x10 (77 - cd)
  have hC2 : XC G2 (77 - cd) := by
    rw [← hG2]
    refine ⟨hcr, by rw [z_ua, if_pos rfl, if_pos rfl], ?_⟩
    rw [z_ua, if_neg (by decide), z_ua, if_pos rfl, if_pos rfl, show 77 - (77 - cd) = cd by omega]
  have o : ∀ q, q ≠ 5 → q ≠ 10 → q ≠ 18 → ¬ (60 ≤ q ∧ q ≤ 64) → ¬ (77 - cd ≤ q ∧ q ≤ 77 - cd + 2) → I4 q = I q := fun q x1 x2 x3 x4 x5 => by rw [← hI4, z_u_ne x2, v1 q x3, o1 q x1 x4 x5]
  have o3 : ∀ q, q ≠ 5 → q ≠ 10 → q ≠ 18 → I4 q = I1 q := fun q x1 x2 x3 => by rw [← hI4, z_u_ne x2, v1 q x3, o2 q x1]
  have ok : ∀ k, k ≠ 10 → I4 10 k = I 10 k := fun k hk => by rw [← hI4, z_u_at, if_neg hk, v1 10 (by decide), e10]
  have e5 : I4 5 8 = 0 := by rw [← hI4, z_u_ne (by decide), v1 5 (by decide), ← hI2, z_u_at, if_pos rfl]
  have c3 : I4 (77 - cd) 3 = nI Z.length := by rw [o3 _ (by omega) (by omega) (by omega), q3, hlen]
  have hS := hS2
  simp only [zW, z_wp1, z_ld, z_f0, z_f1, z_f2, z_f3, List.getElem?_cons_zero, List.getElem?_cons_succ, true_and, and_true, Int32.reduceOfInt, z_i10, z_i01, Int32.reduceLT, Int32.reduceLE, Int32.reduceAdd, Int32.reduceSub, z_set, z_set2, z_kil, List.set_cons_zero, List.set_cons_succ, List.take_succ_cons, List.take_zero, List.drop_succ_cons, List.drop_zero, List.reverse_cons, List.reverse_nil, List.nil_append, List.cons_append, List.getD_cons_succ, List.getD_cons_zero, List.getD_nil, List.length_cons, List.length_nil, List.map_cons, List.map_nil, List.sum_cons, List.sum_nil, Nat.reduceAdd, Nat.reduceLeDiff, Value.category, Option.toList, true_or, or_true, z_ua, ↓reduceIte, Nat.reduceEqDiff, eq_self, not_true_eq_false, not_false_eq_true, false_implies, true_implies, Classical.not_not, Nat.le_refl, Nat.zero_le, sK5 hS, sG5_1 hS, sK10 hS]
  try dsimp only
  refine z_callD (c90 (n := n) (I := I4) (J := J) hS2 hC2) (by omega) (by omega) (by omega) (Nat.le_of_ble_eq_true rfl) ?_
  try simp only [zW, z_wp1, z_ld, z_f0, z_f1, z_f2, z_f3, List.getElem?_cons_zero, List.getElem?_cons_succ, true_and, and_true, Int32.reduceOfInt, z_i10, z_i01, Int32.reduceLT, Int32.reduceLE, Int32.reduceAdd, Int32.reduceSub, z_set, z_set2, z_kil, List.set_cons_zero, List.set_cons_succ, List.take_succ_cons, List.take_zero, List.drop_succ_cons, List.drop_zero, List.reverse_cons, List.reverse_nil, List.nil_append, List.cons_append, List.getD_cons_succ, List.getD_cons_zero, List.getD_nil, List.length_cons, List.length_nil, List.map_cons, List.map_nil, List.sum_cons, List.sum_nil, Nat.reduceAdd, Nat.reduceLeDiff, Value.category, Option.toList, true_or, or_true, z_ua, ↓reduceIte, Nat.reduceEqDiff, eq_self, not_true_eq_false, not_false_eq_true, false_implies, true_implies, Classical.not_not, Nat.le_refl, Nat.zero_le]
  try dsimp only
  rw [c3]
  refine hQ _ _ ⟨rfl, n, K, L, I4, J, G2, 77 - cd, D, ch + 1, rfl, fun M' hP => ?_, hS2, Nat.le_refl _, fun q a b => ⟨o q (by omega) (by omega) (by omega) (by omega) (by omega), rfl⟩, Nat.le_refl _⟩
  obtain ⟨r, mf, m1, -, m2, m3, m4, m5, m6⟩ := hP
  have gk : ∀ k, mQ k → ¬ (k = 11 ∨ k = 28 ∨ k = 29 ∨ k = 17) → M' 71 k = M 71 k := fun k hk hn => mf.2 k (by unfold mQ at hk; omega) (by omega) (by omega) (by omega) (by omega) (by unfold mQ at hk; omega) (by unfold mQ at hk; omega) (by unfold mQ at hk; omega) (by unfold mQ at hk; omega) (by unfold mQ at hk; omega) (by unfold mQ at hk; omega) (by unfold mQ at hk; omega) (by unfold mQ at hk; omega) (by unfold mQ at hk; omega)
  have gq : ∀ q, (72 ≤ q ∧ q ≤ 78) ∨ (90 ≤ q ∧ q ≤ 92) ∨ q = 97 → M' q = M q := fun q hq => mf.1 q (by omega) (by omega) (by omega) (by omega) (by omega) (by omega)
  have vk : M' 71 8 = M 71 8 := gk _ (by unfold mQ; omega) (by decide)
  have vd : M' 71 9 = M 71 9 := gk _ (by unfold mQ; omega) (by decide)
  have hy := y_rd (kd := p_K (M 77) T) (am := p_A (M 77) T) (fun i h => p_K_800 hT8 i h) 13 0 0 Z hR
  have each : ∀ i, i < Z.length → ∃ zs, ZX[i]? = some zs ∧ Z[i]? = some (Z.getD i []) ∧ q_ok zs (Z.getD i []) ∧ y_mr (Z.getD i []) (0, 0) = some (0, 1) := fun i hi => by
    obtain ⟨zs, e1⟩ : ∃ zs, ZX[i]? = some zs := ⟨_, List.getElem?_eq_getElem (by omega)⟩
    have e2 : Z[i]? = some (p_fl zs) := by rw [← z1, List.getElem?_map, e1]; rfl
    have e3 : Z.getD i [] = p_fl zs := by rw [List.getD_eq_getElem?_getD, e2]; rfl
    rw [e3]
    exact ⟨zs, e1, e2, ⟨rfl, fun x hx => z2 _ (List.mem_of_getElem? e1) x hx⟩, hy _ (List.mem_of_getElem? e2)⟩
  have rT : x_scale I4 (77 - cd) Z.length (fun i kn => y_v (Z.getD i []) kn) := by
    refine ⟨c3, by omega, fun i hi => ?_⟩
    obtain ⟨zs, w1, w2, w3, w4⟩ := each i hi
    refine ⟨zs, ?_, fun kn => (y_both w3 w4 kn).2⟩
    refine x_mk.code (ZX := ZX) (fun k hk => ?_) ⟨?_, fun j x hj => ?_⟩ q7 w1
    · rw [o3 _ (by omega) (by omega) (by omega)]; exact q4 k hk
    · rw [o3 _ (by omega) (by omega) (by omega)]; exact q5.1
    · rw [o3 _ (by omega) (by omega) (by omega)]; exact q5.2 j x hj
  refine hx0.nw hr hS2 hC2 (fun i r hd' => ?_) (fun q hq => o q (by omega) (by omega) (by omega) (by omega) (by omega)) ⟨⟨by rw [gk _ (by unfold mQ; omega) (by decide)]; exact s1, s2, by rw [gk _ (by unfold mQ; omega) (by decide)]; exact s3, s4, m4, m5, fun i hi => ?_⟩, by rw [gq 78 (by omega)]; exact h1.2⟩ ((h2.cg (fun q _ _ => o q (by omega) (by omega) (by omega) (by omega) (by omega))).mg (fun q _ _ => gq q (by omega))) ⟨by rw [ok _ (by decide)]; exact a1, by rw [ok _ (by decide), vk]; exact a2, by rw [ok _ (by decide), vd]; exact a3, by rw [vk]; exact a4, fun k f m hk hf hm => ?_, rT, fun i hi kn => ?_, fun f hf q => ?_, fun f hf => ?_, ?_⟩ ⟨by rw [e5, m1], ⟨0, by omega, m1⟩, by rw [o 59 (by omega) (by omega) (by omega) (by omega) (by omega), gq 77 (by omega)]; exact htp.2.2.1, by rw [gq 77 (by omega)]; exact htp.2.2.2⟩ ⟨by rw [o3 60 (by omega) (by omega) (by omega), q8, m2], by rw [o3 60 (by omega) (by omega) (by omega), q9, m3]⟩ (fun q _ _ => gq q (by omega)) (gk _ (by unfold mQ; omega) (by decide)) (gk _ (by unfold mQ; omega) (by decide)) (gk _ (by unfold mQ; omega) (by decide)) (gk _ (by unfold mQ; omega) (by decide)) (gq 97 (by omega))
  · have hne : ¬ r.1 = 10 ∧ ¬ r.1 = 60 := by
      have : ∀ r ∈ d_tb, ¬ r.1 = 10 ∧ ¬ r.1 = 60 := by decide
      exact this r (List.mem_of_getElem? hd')
    rw [← hG2, z_ua, if_neg hne.1, z_ua, if_neg hne.2]
  · obtain ⟨zs, w1, w2, w3, w4⟩ := each i hi
    exact ⟨_, m6 i _ w2, fun kn => (y_both w3 w4 kn).1⟩
  · rw [o 11 (by omega) (by omega) (by omega) (by omega) (by omega), a5 k f m hk hf hm, vd]
    unfold mI_kn
    rw [gq 72 (by omega), gq 73 (by omega), gq 74 (by omega), gq 75 (by omega), gq 76 (by omega)]
  · obtain ⟨zs, w1, w2, w3, w4⟩ := each i hi
    exact y_three w3 w4 kn
  · have e18 : I4 18 = I3 18 := by rw [← hI4, z_u_ne (by decide)]
    rw [e18] at q
    exact absurd (v2 f hf) q
  · have e18 : I4 18 = I3 18 := by rw [← hI4, z_u_ne (by decide)]
    rw [e18, v3 f hf, o1 18 (by omega) (by omega) (by omega)]
    exact a9 f hf
  · rw [← hI4, z_u_at, if_pos rfl, e10, a10]
    exact nI_add ch 1
end PUB9
