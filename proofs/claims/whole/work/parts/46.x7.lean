/-! The class: the table made fresh -/
/-- what the marks say of a find -/
abbrev x_T (I : Nat → Nat → Int32) (tr : Nat → (Int32 → Int32) → Int32) (f i : Nat) : Int32 := tr i (x_me (I 11) (I 10 1) f)
/-- a fresh row is right -/
def x_fr (I : Nat → Nat → Int32) (N F : Nat) (tr : Nat → (Int32 → Int32) → Int32) : Prop := ∀ f, f < F → ¬ I 18 f = 0 → I 16 f = x_bits (x_T I tr f) 1 N ∧ I 17 f = x_bits (x_T I tr f) 2 N
/-- what freshen leaves alone -/
def x_ff (I I' : Nat → Nat → Int32) (cd : Nat) : Prop := (∀ q, q ≠ 16 → q ≠ 17 → q ≠ 18 → q ≠ 19 → q ≠ cd → q ≠ cd + 3 → I' q = I q) ∧ ∀ k, k ≠ 5 → k ≠ 6 → I' cd k = I cd k
theorem x_ff.rf (I : Nat → Nat → Int32) (cd : Nat) : x_ff I I cd := ⟨fun _ _ _ _ _ _ _ => rfl, fun _ _ _ => rfl⟩
theorem x_ff.tr {I I1 I2 : Nat → Nat → Int32} {cd : Nat} (h : x_ff I I1 cd) (h2 : x_ff I1 I2 cd) : x_ff I I2 cd := ⟨fun q a b c d e f => (h2.1 q a b c d e f).trans (h.1 q a b c d e f), fun k a b => (h2.2 k a b).trans (h.2 k a b)⟩
theorem x_ff.sc {I I' : Nat → Nat → Int32} {cd N : Nat} {tr : Nat → (Int32 → Int32) → Int32} (h : x_ff I I' cd) (hc : cd = 12 ∨ cd = 65) (hs : x_scale I cd N tr) : x_scale I' cd N tr := hs.congr (h.2 3 (by omega) (by omega)) (h.1 _ (by omega) (by omega) (by omega) (by omega) (by omega) (by omega)) (h.1 _ (by omega) (by omega) (by omega) (by omega) (by omega) (by omega))
theorem x_ff.T {I I' : Nat → Nat → Int32} {cd : Nat} (h : x_ff I I' cd) (hc : cd = 12 ∨ cd = 65) (tr : Nat → (Int32 → Int32) → Int32) (f : Nat) : x_T I' tr f = x_T I tr f := by
  funext i
  unfold x_T
  rw [h.1 11 (by omega) (by omega) (by omega) (by omega) (by omega) (by omega), h.1 10 (by omega) (by omega) (by omega) (by omega) (by omega) (by omega)]
theorem co_mem : ∀ t ∈ z_sg, ¬ (t.1 = 10 ∧ t.2.1 = 4) := by decide +kernel
theorem co_mem2 : ∀ t ∈ z_sg, ¬ (t.1 = 60 ∧ t.2.1 = 1) := by decide +kernel
section X7
variable {l : Launch} {n : Nat} {K L : Nat → Nat} {I : Nat → Nat → Int32} {J : Nat → Nat → Int64} {G : Nat → Nat → Value} {cd F N : Nat} {tr : Nat → (Int32 → Int32) → Int32}
theorem c103 (hS : SS K L G) (hC : XC G cd) {f : Nat} (hf : f < 16) (hsc0 : x_scale I cd N tr) : z_Ctr l 4 103 [.ref 10, .int (nI f)] (n, K, L, I, J, G) 0 0 (fun r h' => r = none ∧ ∃ I', h' = (n, K, L, I', J, G) ∧ x_ff I I' cd ∧ (∀ g, g ≠ f → I' 16 g = I 16 g ∧ I' 17 g = I 17 g ∧ I' 18 g = I 18 g) ∧ I' 16 f = x_bits (x_T I tr f) 1 N ∧ I' 17 f = x_bits (x_T I tr f) 2 N ∧ I' 18 f = 1) := by
  have c1 := hC.1
  have h1 : (nI f).toNatClampNeg = f := nI_clamp (by omega)
  have v1 : vp_in (nI f) 16 := vp_in_nI (by omega) (by omega)
  refine z_ctr (by decide) (by decide +kernel) (Nat.le_of_ble_eq_true rfl) (by decide +kernel) (fun X hl hj hd hm hs hsc hQ => ?_)
  show zV X 0 [some (.ref 10), some (.int (nI f)), none, none] [] _ 0 0
  refine zW_ok hj B103_0 0 _ _ _ _ _ b103_0 ?_
  simp only [B103_0, zW, z_wp1, z_ld, z_f0, z_f1, z_f2, z_f3, List.getElem?_cons_zero, List.getElem?_cons_succ, true_and, and_true, Int32.reduceOfInt, z_i10, z_i01, Int32.reduceLT, Int32.reduceLE, Int32.reduceAdd, Int32.reduceSub, z_set, z_set2, z_kil, List.set_cons_zero, List.set_cons_succ, List.take_succ_cons, List.take_zero, List.drop_succ_cons, List.drop_zero, List.reverse_cons, List.reverse_nil, List.nil_append, List.cons_append, List.getD_cons_succ, List.getD_cons_zero, List.getD_nil, List.length_cons, List.length_nil, List.map_cons, List.map_nil, List.sum_cons, List.sum_nil, Nat.reduceAdd, Nat.reduceLeDiff, Value.category, Option.toList, true_or, or_true, z_ua, ↓reduceIte, Nat.reduceEqDiff, eq_self, not_true_eq_false, not_false_eq_true, false_implies, true_implies, Classical.not_not, Nat.le_refl, Nat.zero_le, sK10 hS, sG10_3 hS, sK11 hS, sL11 hS, sG10_8 hS, sK19 hS, sL19 hS]
  try dsimp only
  refine z_callQ (c104 (q := 11) (p := 19) (I := I) (sK11 hS) (sL11 hS) (sK19 hS) (sL19 hS) (by omega) hf (I 10 1)) (by omega) (by omega) (by omega) (Nat.le_of_ble_eq_true rfl) ?_
  rintro r h' ⟨rfl, I2, rfl, ho, hg⟩
  simp only [zW, z_wp1, z_ld, z_f0, z_f1, z_f2, z_f3, List.getElem?_cons_zero, List.getElem?_cons_succ, true_and, and_true, Int32.reduceOfInt, z_i10, z_i01, Int32.reduceLT, Int32.reduceLE, Int32.reduceAdd, Int32.reduceSub, z_set, z_set2, z_kil, List.set_cons_zero, List.set_cons_succ, List.take_succ_cons, List.take_zero, List.drop_succ_cons, List.drop_zero, List.reverse_cons, List.reverse_nil, List.nil_append, List.cons_append, List.getD_cons_succ, List.getD_cons_zero, List.getD_nil, List.length_cons, List.length_nil, List.map_cons, List.map_nil, List.sum_cons, List.sum_nil, Nat.reduceAdd, Nat.reduceLeDiff, Value.category, Option.toList, true_or, or_true, z_ua, ↓reduceIte, Nat.reduceEqDiff, eq_self, not_true_eq_false, not_false_eq_true, false_implies, true_implies, Classical.not_not, Nat.le_refl, Nat.zero_le, sK10 hS, sG10_5 hS, sK16 hS, sL16 hS, sG10_6 hS, sK17 hS, sL17 hS, h1, v1]
  try dsimp only
  have hf2 : x_ff I (z_u (z_u I2 16 f 0) 17 f 0) cd := ⟨fun q a b c d e f => by rw [z_u_ne b, z_u_ne a]; exact ho q d, fun k a b => by rw [z_u_ne (by omega), z_u_ne (by omega), ho cd (by omega)]⟩
  have hsc1 := hf2.sc c1 hsc0
  have hT : ∀ i, i < N → x_T I tr f i = tr i (fun a => z_u (z_u I2 16 f 0) 17 f 0 19 a.toNatClampNeg) := fun i hi => x_tr_congr hsc0 hi (fun a ha => by
    obtain ⟨m, hm6, rfl⟩ := x_lt6 ha
    rw [nI_clamp (by omega), z_u_ne (by omega), z_u_ne (by omega), hg m hm6])
  refine (c103_loop (I := z_u (z_u I2 16 f 0) 17 f 0) hS hC hj hd hm hs hf hsc1 (x_T I tr f) hT ?_ N 0 _ none (by omega) ⟨fun _ _ _ _ _ => rfl, fun _ _ _ => rfl, fun _ _ => ⟨rfl, rfl⟩⟩ (by simp [z_u, x_bits]) (by simp [z_u, x_bits])).weak (by simp only [z_le, nI_0]; simp)
  rintro r h' ⟨rfl, I3, rfl, ho3, g1, g2⟩
  refine hQ _ _ ⟨rfl, _, rfl, hf2.tr ⟨fun q a b c d e f => by rw [z_u_ne c]; exact ho3.1 q a b e f, fun k a b => by rw [z_u_ne (by omega)]; exact ho3.2.1 k a b⟩, fun g hg' => ⟨?_, ?_, ?_⟩, ?_, ?_, ?_⟩
  · rw [z_u_ne (by omega), (ho3.2.2 g hg').1, z_u_ne (by omega), z_u_at, if_neg hg', ho 16 (by omega)]
  · rw [z_u_ne (by omega), (ho3.2.2 g hg').2, z_u_at, if_neg hg', z_u_ne (by omega), ho 17 (by omega)]
  · rw [z_u_at, if_neg hg', ho3.1 18 (by omega) (by omega) (by omega) (by omega), z_u_ne (by omega), z_u_ne (by omega), ho 18 (by omega)]
  · rw [z_u_ne (by omega), g1]
  · rw [z_u_ne (by omega), g2]
  · simp [z_u]
theorem c96_loop {X : zX} (hS : SS K L G) (hC : XC G cd) (hj : X.2.1 = 96) (hd : X.2.2.1 = 5) (hm : X.2.2.2.1 = 0) (hs : X.2.2.2.2.1 = 0) (hF : I 10 0 = nI F) (hF16 : F ≤ 16) (hsc0 : x_scale I cd N tr) (hfr : x_fr I N F tr) (hQ : ∀ r h', (r = none ∧ ∃ I', h' = (n, K, L, I', J, G) ∧ x_ff I I' cd ∧ ∀ f, f < F → I' 16 f = x_bits (x_T I tr f) 1 N ∧ I' 17 f = x_bits (x_T I tr f) 2 N ∧ ¬ I' 18 f = 0) → X.2.2.2.2.2.2 r h') : ∀ (k i : Nat) (I' : Nat → Nat → Int32), i + k = F → x_ff I I' cd → (∀ f, f < i → I' 16 f = x_bits (x_T I tr f) 1 N ∧ I' 17 f = x_bits (x_T I tr f) 2 N ∧ ¬ I' 18 f = 0) → (∀ f, i ≤ f → I' 16 f = I 16 f ∧ I' 17 f = I 17 f ∧ I' 18 f = I 18 f) → zV X 2 [some (.ref 10), some (.int (nI i))] [] (n, K, L, I', J, G) 0 0
  | 0, i, I', hk, ho, g1, g2 => by
    have c1 := hC.1
    have e : i = F := by omega
    subst e
    have hF' : I' 10 0 = nI i := by rw [ho.1 10 (by omega) (by omega) (by omega) (by omega) (by omega) (by omega)]; exact hF
    refine zW_ok hj B96_2 2 _ _ _ _ _ b96_2 ?_
    simp only [B96_2, zW, z_wp1, z_ld, z_f0, z_f1, z_f2, z_f3, List.getElem?_cons_zero, List.getElem?_cons_succ, true_and, and_true, Int32.reduceOfInt, z_i10, z_i01, Int32.reduceLT, Int32.reduceLE, Int32.reduceAdd, Int32.reduceSub, z_set, z_set2, z_kil, List.set_cons_zero, List.set_cons_succ, List.take_succ_cons, List.take_zero, List.drop_succ_cons, List.drop_zero, List.reverse_cons, List.reverse_nil, List.nil_append, List.cons_append, List.getD_cons_succ, List.getD_cons_zero, List.getD_nil, List.length_cons, List.length_nil, List.map_cons, List.map_nil, List.sum_cons, List.sum_nil, Nat.reduceAdd, Nat.reduceLeDiff, Value.category, Option.toList, true_or, or_true, z_ua, ↓reduceIte, Nat.reduceEqDiff, eq_self, not_true_eq_false, not_false_eq_true, false_implies, true_implies, Classical.not_not, Nat.le_refl, Nat.zero_le, sK10 hS, hF']
    try dsimp only
    refine ⟨fun _ => ?_, fun hc => absurd (nI_le (Nat.le_refl _) (by omega)) hc⟩
    refine zW_ok hj B96_30 30 _ _ _ _ _ b96_30 ?_
    simp only [B96_30, zW, z_wp1, z_ld, z_f0, z_f1, z_f2, z_f3, List.getElem?_cons_zero, List.getElem?_cons_succ, true_and, and_true, Int32.reduceOfInt, z_i10, z_i01, Int32.reduceLT, Int32.reduceLE, Int32.reduceAdd, Int32.reduceSub, z_set, z_set2, z_kil, List.set_cons_zero, List.set_cons_succ, List.take_succ_cons, List.take_zero, List.drop_succ_cons, List.drop_zero, List.reverse_cons, List.reverse_nil, List.nil_append, List.cons_append, List.getD_cons_succ, List.getD_cons_zero, List.getD_nil, List.length_cons, List.length_nil, List.map_cons, List.map_nil, List.sum_cons, List.sum_nil, Nat.reduceAdd, Nat.reduceLeDiff, Value.category, Option.toList, true_or, or_true, z_ua, ↓reduceIte, Nat.reduceEqDiff, eq_self, not_true_eq_false, not_false_eq_true, false_implies, true_implies, Classical.not_not, Nat.le_refl, Nat.zero_le]
    try dsimp only
    exact hQ _ _ ⟨rfl, I', rfl, ho, g1⟩
  | k + 1, i, I', hk, ho, g1, g2 => by
    have c1 := hC.1
    have hF' : I' 10 0 = nI F := by rw [ho.1 10 (by omega) (by omega) (by omega) (by omega) (by omega) (by omega)]; exact hF
    have h1 : (nI i).toNatClampNeg = i := nI_clamp (by omega)
    have v1 : vp_in (nI i) 16 := vp_in_nI (by omega) (by omega)
    refine zW_ok hj B96_2 2 _ _ _ _ _ b96_2 ?_
    simp only [B96_2, zW, z_wp1, z_ld, z_f0, z_f1, z_f2, z_f3, List.getElem?_cons_zero, List.getElem?_cons_succ, true_and, and_true, Int32.reduceOfInt, z_i10, z_i01, Int32.reduceLT, Int32.reduceLE, Int32.reduceAdd, Int32.reduceSub, z_set, z_set2, z_kil, List.set_cons_zero, List.set_cons_succ, List.take_succ_cons, List.take_zero, List.drop_succ_cons, List.drop_zero, List.reverse_cons, List.reverse_nil, List.nil_append, List.cons_append, List.getD_cons_succ, List.getD_cons_zero, List.getD_nil, List.length_cons, List.length_nil, List.map_cons, List.map_nil, List.sum_cons, List.sum_nil, Nat.reduceAdd, Nat.reduceLeDiff, Value.category, Option.toList, true_or, or_true, z_ua, ↓reduceIte, Nat.reduceEqDiff, eq_self, not_true_eq_false, not_false_eq_true, false_implies, true_implies, Classical.not_not, Nat.le_refl, Nat.zero_le, sK10 hS, sG10_7 hS, sK18 hS, sL18 hS, hF', h1, v1]
    try dsimp only
    refine ⟨fun hc => absurd hc (nI_ge (by omega) (by omega)), fun _ => ⟨fun h => ?_, fun h => ?_⟩⟩
    · refine zW_ok hj B96_24 24 _ _ _ _ _ b96_24 ?_
      simp only [B96_24, zW, z_wp1, z_ld, z_f0, z_f1, z_f2, z_f3, List.getElem?_cons_zero, List.getElem?_cons_succ, true_and, and_true, Int32.reduceOfInt, z_i10, z_i01, Int32.reduceLT, Int32.reduceLE, Int32.reduceAdd, Int32.reduceSub, z_set, z_set2, z_kil, List.set_cons_zero, List.set_cons_succ, List.take_succ_cons, List.take_zero, List.drop_succ_cons, List.drop_zero, List.reverse_cons, List.reverse_nil, List.nil_append, List.cons_append, List.getD_cons_succ, List.getD_cons_zero, List.getD_nil, List.length_cons, List.length_nil, List.map_cons, List.map_nil, List.sum_cons, List.sum_nil, Nat.reduceAdd, Nat.reduceLeDiff, Value.category, Option.toList, true_or, or_true, z_ua, ↓reduceIte, Nat.reduceEqDiff, eq_self, not_true_eq_false, not_false_eq_true, false_implies, true_implies, Classical.not_not, Nat.le_refl, Nat.zero_le, nI_1]
      try dsimp only
      refine c96_loop hS hC hj hd hm hs hF hF16 hsc0 hfr hQ k (i + 1) I' (by omega) ho (fun f hf => ?_) (fun f hf => g2 f (by omega))
      by_cases e : f = i
      · subst e
        have g3 := g2 f (Nat.le_refl _)
        have g4 := hfr f (by omega) (by rw [← g3.2.2]; exact h)
        exact ⟨g3.1.trans g4.1, g3.2.1.trans g4.2, h⟩
      · exact g1 f (by omega)
    · refine z_callQ (c103 (I := I') hS hC (show i < 16 by omega) (ho.sc c1 hsc0)) (by omega) (by omega) (by omega) (Nat.le_of_ble_eq_true rfl) ?_
      rintro r h' ⟨rfl, I2, rfl, ho2, hg, h16, h17, h18⟩
      rw [ho.T c1] at h16 h17
      simp only [zW, z_wp1, z_ld, z_f0, z_f1, z_f2, z_f3, List.getElem?_cons_zero, List.getElem?_cons_succ, true_and, and_true, Int32.reduceOfInt, z_i10, z_i01, Int32.reduceLT, Int32.reduceLE, Int32.reduceAdd, Int32.reduceSub, z_set, z_set2, z_kil, List.set_cons_zero, List.set_cons_succ, List.take_succ_cons, List.take_zero, List.drop_succ_cons, List.drop_zero, List.reverse_cons, List.reverse_nil, List.nil_append, List.cons_append, List.getD_cons_succ, List.getD_cons_zero, List.getD_nil, List.length_cons, List.length_nil, List.map_cons, List.map_nil, List.sum_cons, List.sum_nil, Nat.reduceAdd, Nat.reduceLeDiff, Value.category, Option.toList, true_or, or_true, z_ua, ↓reduceIte, Nat.reduceEqDiff, eq_self, not_true_eq_false, not_false_eq_true, false_implies, true_implies, Classical.not_not, Nat.le_refl, Nat.zero_le]
      try dsimp only
      refine zW_ok hj B96_24 24 _ _ _ _ _ b96_24 ?_
      simp only [B96_24, zW, z_wp1, z_ld, z_f0, z_f1, z_f2, z_f3, List.getElem?_cons_zero, List.getElem?_cons_succ, true_and, and_true, Int32.reduceOfInt, z_i10, z_i01, Int32.reduceLT, Int32.reduceLE, Int32.reduceAdd, Int32.reduceSub, z_set, z_set2, z_kil, List.set_cons_zero, List.set_cons_succ, List.take_succ_cons, List.take_zero, List.drop_succ_cons, List.drop_zero, List.reverse_cons, List.reverse_nil, List.nil_append, List.cons_append, List.getD_cons_succ, List.getD_cons_zero, List.getD_nil, List.length_cons, List.length_nil, List.map_cons, List.map_nil, List.sum_cons, List.sum_nil, Nat.reduceAdd, Nat.reduceLeDiff, Value.category, Option.toList, true_or, or_true, z_ua, ↓reduceIte, Nat.reduceEqDiff, eq_self, not_true_eq_false, not_false_eq_true, false_implies, true_implies, Classical.not_not, Nat.le_refl, Nat.zero_le, nI_1]
      try dsimp only
      refine c96_loop hS hC hj hd hm hs hF hF16 hsc0 hfr hQ k (i + 1) I2 (by omega) (ho.tr ho2) (fun f hf => ?_) (fun f hf => ?_)
      · by_cases e : f = i
        · subst e
          exact ⟨h16, h17, by rw [h18]; decide⟩
        · have g3 := hg f e
          have g4 := g1 f (by omega)
          rw [g3.1, g3.2.1, g3.2.2]
          exact g4
      · have g3 := hg f (by omega)
        have g4 := g2 f (by omega)
        rw [g3.1, g3.2.1, g3.2.2]
        exact g4
theorem c96 (hS : SS K L G) (hC : XC G cd) (hF : I 10 0 = nI F) (hF16 : F ≤ 16) (hsc0 : x_scale I cd N tr) (hfr : x_fr I N F tr) : z_Ctr l 5 96 [.ref 10] (n, K, L, I, J, G) 0 0 (fun r h' => r = none ∧ ∃ I', h' = (n, K, L, I', J, G) ∧ x_ff I I' cd ∧ ∀ f, f < F → I' 16 f = x_bits (x_T I tr f) 1 N ∧ I' 17 f = x_bits (x_T I tr f) 2 N ∧ ¬ I' 18 f = 0) := by
  refine z_ctr (by decide) (by decide +kernel) (Nat.le_of_ble_eq_true rfl) (by decide +kernel) (fun X hl hj hd hm hs hsc hQ => ?_)
  show zV X 0 [some (.ref 10), none] [] _ 0 0
  refine zW_ok hj B96_0 0 _ _ _ _ _ b96_0 ?_
  simp only [B96_0, zW, z_wp1, z_ld, z_f0, z_f1, z_f2, z_f3, List.getElem?_cons_zero, List.getElem?_cons_succ, true_and, and_true, Int32.reduceOfInt, z_i10, z_i01, Int32.reduceLT, Int32.reduceLE, Int32.reduceAdd, Int32.reduceSub, z_set, z_set2, z_kil, List.set_cons_zero, List.set_cons_succ, List.take_succ_cons, List.take_zero, List.drop_succ_cons, List.drop_zero, List.reverse_cons, List.reverse_nil, List.nil_append, List.cons_append, List.getD_cons_succ, List.getD_cons_zero, List.getD_nil, List.length_cons, List.length_nil, List.map_cons, List.map_nil, List.sum_cons, List.sum_nil, Nat.reduceAdd, Nat.reduceLeDiff, Value.category, Option.toList, true_or, or_true, z_ua, ↓reduceIte, Nat.reduceEqDiff, eq_self, not_true_eq_false, not_false_eq_true, false_implies, true_implies, Classical.not_not, Nat.le_refl, Nat.zero_le]
  try dsimp only
  exact c96_loop hS hC hj hd hm hs hF hF16 hsc0 hfr hQ F 0 I (by omega) (x_ff.rf I cd) (fun f hf => by omega) (fun f hf => ⟨rfl, rfl, rfl⟩)
/-- turn, cutBy -/
theorem c93 (hS : SS K L G) {c : Nat} (hc : I 6 3 = nI c) (hc4 : c ≤ 400) (hsl : ∀ t, t < c → ∃ s, s < 192 ∧ I 7 t = nI s) (hF : I 10 0 = nI F) (hF16 : F ≤ 16) (k d : Int32) : z_Ctr l 2 93 [.ref 10, .int k, .int d, .ref 6] (n, K, L, I, J, G) 0 0 (fun r h' => r = none ∧ ∃ I', h' = (n, K, L, z_u (z_u (z_u I' 10 1 k) 10 2 d) 10 10 (I 10 10 + 1), J, G) ∧ (∀ q, q ≠ 18 → q ≠ 11 → I' q = I q) ∧ (∀ s, s < 192 → I' 11 s = x_kn (I 7) (I 8) s (x_pl (I 9) d c 0)) ∧ ∀ f, f < F → I' 18 f = 0) := by
  refine z_ctr (by decide) (by decide +kernel) (Nat.le_of_ble_eq_true rfl) (by decide +kernel) (fun X hl hj hd hm hs hsc hQ => ?_)
  show zV X 0 [some (.ref 10), some (.int k), some (.int d), some (.ref 6)] [] _ 0 0
  refine zW_ok hj B93_0 0 _ _ _ _ _ b93_0 ?_
  simp only [B93_0, zW, z_wp1, z_ld, z_f0, z_f1, z_f2, z_f3, List.getElem?_cons_zero, List.getElem?_cons_succ, true_and, and_true, Int32.reduceOfInt, z_i10, z_i01, Int32.reduceLT, Int32.reduceLE, Int32.reduceAdd, Int32.reduceSub, z_set, z_set2, z_kil, List.set_cons_zero, List.set_cons_succ, List.take_succ_cons, List.take_zero, List.drop_succ_cons, List.drop_zero, List.reverse_cons, List.reverse_nil, List.nil_append, List.cons_append, List.getD_cons_succ, List.getD_cons_zero, List.getD_nil, List.length_cons, List.length_nil, List.map_cons, List.map_nil, List.sum_cons, List.sum_nil, Nat.reduceAdd, Nat.reduceLeDiff, Value.category, Option.toList, true_or, or_true, z_ua, ↓reduceIte, Nat.reduceEqDiff, eq_self, not_true_eq_false, not_false_eq_true, false_implies, true_implies, Classical.not_not, Nat.le_refl, Nat.zero_le, sK10 hS, sG10_3 hS, sK11 hS, sL11 hS, sK6 hS]
  try dsimp only
  refine z_callQ (c46 (I := z_u (z_u I 10 1 k) 10 2 d) hS (p := 11) (c := c) (day := d) (Or.inl rfl) (by simp [z_u]; exact hc) hc4 (by simp [z_u]; exact hsl)) (by omega) (by omega) (by omega) (Nat.le_of_ble_eq_true rfl) ?_
  rintro r h' ⟨rfl, I2, rfl, ho, hg⟩
  simp only [zW, z_wp1, z_ld, z_f0, z_f1, z_f2, z_f3, List.getElem?_cons_zero, List.getElem?_cons_succ, true_and, and_true, Int32.reduceOfInt, z_i10, z_i01, Int32.reduceLT, Int32.reduceLE, Int32.reduceAdd, Int32.reduceSub, z_set, z_set2, z_kil, List.set_cons_zero, List.set_cons_succ, List.take_succ_cons, List.take_zero, List.drop_succ_cons, List.drop_zero, List.reverse_cons, List.reverse_nil, List.nil_append, List.cons_append, List.getD_cons_succ, List.getD_cons_zero, List.getD_nil, List.length_cons, List.length_nil, List.map_cons, List.map_nil, List.sum_cons, List.sum_nil, Nat.reduceAdd, Nat.reduceLeDiff, Value.category, Option.toList, true_or, or_true, z_ua, ↓reduceIte, Nat.reduceEqDiff, eq_self, not_true_eq_false, not_false_eq_true, false_implies, true_implies, Classical.not_not, Nat.le_refl, Nat.zero_le, sK10 hS]
  try dsimp only
  have e10 : I2 10 = z_u (z_u I 10 1 k) 10 2 d 10 := ho 10 (by omega)
  refine z_callQ (c95 (I := I2) hS (F := F) (by rw [e10]; simp [z_u]; exact hF) hF16) (by omega) (by omega) (by omega) (Nat.le_of_ble_eq_true rfl) ?_
  rintro r h' ⟨rfl, I3, rfl, ho3, hg3⟩
  refine hQ _ _ ⟨rfl, fun q => if q = 10 then I 10 else I3 q, ?_, fun q a b => ?_, fun s hs' => ?_, fun f hf => ?_⟩
  · refine congrArg (fun z => (n, K, L, z, J, G)) ?_
    funext q i
    by_cases e : q = 10
    · subst e
      simp only [z_u, if_true]
      rw [ho3 10 (by omega), e10]
      by_cases e1 : i = 10
      · simp [e1, z_u]
      · simp [e1, z_u]
    · simp [z_u, e]
  · by_cases e : q = 10
    · simp [e]
    · simp only [if_neg e]
      rw [ho3 q a, ho q b, z_u_ne e, z_u_ne e]
  · simp only [show ¬ (11 : Nat) = 10 by omega, if_false]
    rw [ho3 11 (by omega), hg s hs']
    simp only [z_u_ne (show (7 : Nat) ≠ 10 by omega), z_u_ne (show (8 : Nat) ≠ 10 by omega), z_u_ne (show (9 : Nat) ≠ 10 by omega)]
  · simp only [show ¬ (18 : Nat) = 10 by omega, if_false]
    exact hg3 f hf
/-- cutBy: the code is another one -/
theorem c94 (hS : SS K L G) (hF : I 10 0 = nI F) (hF16 : F ≤ 16) (q : Nat) (hq5 : K q = 5) : z_Ctr l 1 94 [.ref 10, .ref q] (n, K, L, I, J, G) 0 0 (fun r h' => r = none ∧ ∃ I', h' = (n, K, L, z_u I' 10 10 (I 10 10 + 1), J, z_u G 10 4 (.ref q)) ∧ (∀ q, q ≠ 18 → I' q = I q) ∧ ∀ f, f < F → I' 18 f = 0) := by
  refine z_ctr (by decide) (by decide +kernel) (Nat.le_of_ble_eq_true rfl) (by decide +kernel) (fun X hl hj hd hm hs hsc hQ => ?_)
  show zV X 0 [some (.ref 10), some (.ref q)] [] _ 0 0
  refine zW_ok hj B94_0 0 _ _ _ _ _ b94_0 ?_
  simp only [B94_0, zW, z_wp1, z_ld, z_f0, z_f1, z_f2, z_f3, List.getElem?_cons_zero, List.getElem?_cons_succ, true_and, and_true, Int32.reduceOfInt, z_i10, z_i01, Int32.reduceLT, Int32.reduceLE, Int32.reduceAdd, Int32.reduceSub, z_set, z_set2, z_kil, List.set_cons_zero, List.set_cons_succ, List.take_succ_cons, List.take_zero, List.drop_succ_cons, List.drop_zero, List.reverse_cons, List.reverse_nil, List.nil_append, List.cons_append, List.getD_cons_succ, List.getD_cons_zero, List.getD_nil, List.length_cons, List.length_nil, List.map_cons, List.map_nil, List.sum_cons, List.sum_nil, Nat.reduceAdd, Nat.reduceLeDiff, Value.category, Option.toList, true_or, or_true, z_ua, ↓reduceIte, Nat.reduceEqDiff, eq_self, not_true_eq_false, not_false_eq_true, false_implies, true_implies, Classical.not_not, Nat.le_refl, Nat.zero_le, sK10 hS, hq5]
  try dsimp only
  have hS' : SS K L (z_u G 10 4 (.ref q)) := ⟨hS.1, hS.2.1, fun t ht => by
    have h := hS.2.2 t ht
    have hne : ¬ (t.1 = 10 ∧ t.2.1 = 4) := co_mem t ht
    rw [z_ua]
    by_cases e1 : t.1 = 10
    · rw [if_pos e1, if_neg (fun e2 => hne ⟨e1, e2⟩), ← e1]
      exact h
    · rw [if_neg e1]
      exact h⟩
  refine z_callQ (c95 (I := I) hS' (F := F) hF hF16) (by omega) (by omega) (by omega) (Nat.le_of_ble_eq_true rfl) ?_
  rintro r h' ⟨rfl, I3, rfl, ho3, hg3⟩
  exact hQ _ _ ⟨rfl, I3, rfl, ho3, hg3⟩
/-- differing -/
def x_df (A B : Nat → Int32) : Nat → Int32
  | 0 => 0
  | i + 1 => if A i = B i then x_df A B i else x_df A B i ||| 1 <<< (nI i &&& 31)
theorem x_df_congr {A B A' B' : Nat → Int32} : ∀ {N : Nat}, (∀ i, i < N → A i = A' i ∧ B i = B' i) → x_df A B N = x_df A' B' N
  | 0, _ => rfl
  | i + 1, h => by simp only [x_df, (h i (by omega)).1, (h i (by omega)).2, x_df_congr (N := i) (fun k hk => h k (by omega))]
theorem x_df_same {A : Nat → Int32} : ∀ {N : Nat}, x_df A A N = 0
  | 0 => rfl
  | i + 1 => by simp only [x_df, if_true]; exact x_df_same
/-- what differing leaves alone -/
def x_fd (I I' : Nat → Nat → Int32) (cd : Nat) : Prop := (∀ q, q ≠ 19 → q ≠ 20 → q ≠ cd → q ≠ cd + 3 → I' q = I q) ∧ ∀ k, k ≠ 5 → k ≠ 6 → I' cd k = I cd k
theorem c102_in {X : zX} (hS : SS K L G) (hC : XC G cd) (hj : X.2.1 = 102) (hd : X.2.2.1 = 4) (hm : X.2.2.2.1 = 0) (hs : X.2.2.2.2.1 = 0) (hsc0 : x_scale I cd N tr) {l1 l2 l3 l4 : Value} {A B : Nat → Int32} (hA : ∀ i, i < N → A i = tr i (fun a => I 19 a.toNatClampNeg)) (hB : ∀ i, i < N → B i = tr i (fun a => I 20 a.toNatClampNeg)) (hQ : ∀ I', x_off I I' cd (cd + 3) → X.2.2.2.2.2.2 (some (.int (x_df A B N))) (n, K, L, I', J, G)) : ∀ (k i : Nat) (I' : Nat → Nat → Int32), i + k = N → x_off I I' cd (cd + 3) → zV X 76 [some (.ref 10), some l1, some l2, some l3, some l4, some (.int 0), some (.int (x_df A B i)), some (.int (nI i))] [] (n, K, L, I', J, G) 0 0
  | 0, i, I', hk, ho => by
    have k5 := (XD_of hS hC.1).1
    have hg := hC.2.1
    have e : i = N := by omega
    subst e
    have h3 : I' cd 3 = nI i := by rw [ho.2 3 (by omega) (by omega)]; exact hsc0.1
    have n12 := hsc0.2.1
    refine zW_ok hj B102_76 76 _ _ _ _ _ b102_76 ?_
    simp only [B102_76, zW, z_wp1, z_ld, z_f0, z_f1, z_f2, z_f3, List.getElem?_cons_zero, List.getElem?_cons_succ, true_and, and_true, Int32.reduceOfInt, z_i10, z_i01, Int32.reduceLT, Int32.reduceLE, Int32.reduceAdd, Int32.reduceSub, z_set, z_set2, z_kil, List.set_cons_zero, List.set_cons_succ, List.take_succ_cons, List.take_zero, List.drop_succ_cons, List.drop_zero, List.reverse_cons, List.reverse_nil, List.nil_append, List.cons_append, List.getD_cons_succ, List.getD_cons_zero, List.getD_nil, List.length_cons, List.length_nil, List.map_cons, List.map_nil, List.sum_cons, List.sum_nil, Nat.reduceAdd, Nat.reduceLeDiff, Value.category, Option.toList, true_or, or_true, z_ua, ↓reduceIte, Nat.reduceEqDiff, eq_self, not_true_eq_false, not_false_eq_true, false_implies, true_implies, Classical.not_not, Nat.le_refl, Nat.zero_le, sK10 hS, hg, k5, h3]
    try dsimp only
    refine ⟨fun _ => ?_, fun hc => absurd (nI_le (Nat.le_refl _) (by omega)) hc⟩
    refine zW_ok hj B102_137 137 _ _ _ _ _ b102_137 ?_
    simp only [B102_137, zW, z_wp1, z_ld, z_f0, z_f1, z_f2, z_f3, List.getElem?_cons_zero, List.getElem?_cons_succ, true_and, and_true, Int32.reduceOfInt, z_i10, z_i01, Int32.reduceLT, Int32.reduceLE, Int32.reduceAdd, Int32.reduceSub, z_set, z_set2, z_kil, List.set_cons_zero, List.set_cons_succ, List.take_succ_cons, List.take_zero, List.drop_succ_cons, List.drop_zero, List.reverse_cons, List.reverse_nil, List.nil_append, List.cons_append, List.getD_cons_succ, List.getD_cons_zero, List.getD_nil, List.length_cons, List.length_nil, List.map_cons, List.map_nil, List.sum_cons, List.sum_nil, Nat.reduceAdd, Nat.reduceLeDiff, Value.category, Option.toList, true_or, or_true, z_ua, ↓reduceIte, Nat.reduceEqDiff, eq_self, not_true_eq_false, not_false_eq_true, false_implies, true_implies, Classical.not_not, Nat.le_refl, Nat.zero_le]
    try dsimp only
    exact hQ I' ho
  | k + 1, i, I', hk, ho => by
    have k5 := (XD_of hS hC.1).1
    have hg := hC.2.1
    have c1 := hC.1
    have h3 : I' cd 3 = nI N := by rw [ho.2 3 (by omega) (by omega)]; exact hsc0.1
    have n12 := hsc0.2.1
    have hsc1 : x_scale I' cd N tr := hsc0.congr (ho.2 3 (by omega) (by omega)) (ho.1 _ (by omega) (by omega)) (ho.1 _ (by omega) (by omega))
    refine zW_ok hj B102_76 76 _ _ _ _ _ b102_76 ?_
    simp only [B102_76, zW, z_wp1, z_ld, z_f0, z_f1, z_f2, z_f3, List.getElem?_cons_zero, List.getElem?_cons_succ, true_and, and_true, Int32.reduceOfInt, z_i10, z_i01, Int32.reduceLT, Int32.reduceLE, Int32.reduceAdd, Int32.reduceSub, z_set, z_set2, z_kil, List.set_cons_zero, List.set_cons_succ, List.take_succ_cons, List.take_zero, List.drop_succ_cons, List.drop_zero, List.reverse_cons, List.reverse_nil, List.nil_append, List.cons_append, List.getD_cons_succ, List.getD_cons_zero, List.getD_nil, List.length_cons, List.length_nil, List.map_cons, List.map_nil, List.sum_cons, List.sum_nil, Nat.reduceAdd, Nat.reduceLeDiff, Value.category, Option.toList, true_or, or_true, z_ua, ↓reduceIte, Nat.reduceEqDiff, eq_self, not_true_eq_false, not_false_eq_true, false_implies, true_implies, Classical.not_not, Nat.le_refl, Nat.zero_le, sK10 hS, hg, k5, h3, sG10_8 hS, sK19 hS, sL19 hS, sG10_9 hS, sK20 hS, sL20 hS]
    try dsimp only
    refine ⟨fun hc => absurd hc (nI_ge (by omega) (by omega)), fun _ => ?_⟩
    refine z_callQ (c51 (I := I') hS hC.1 (Or.inl rfl) hsc1 (show i < N by omega)) (by omega) (by omega) (by omega) (Nat.le_of_ble_eq_true rfl) ?_
    rintro r h' ⟨rfl, I2, rfl, ho2⟩
    simp only [zW, z_wp1, z_ld, z_f0, z_f1, z_f2, z_f3, List.getElem?_cons_zero, List.getElem?_cons_succ, true_and, and_true, Int32.reduceOfInt, z_i10, z_i01, Int32.reduceLT, Int32.reduceLE, Int32.reduceAdd, Int32.reduceSub, z_set, z_set2, z_kil, List.set_cons_zero, List.set_cons_succ, List.take_succ_cons, List.take_zero, List.drop_succ_cons, List.drop_zero, List.reverse_cons, List.reverse_nil, List.nil_append, List.cons_append, List.getD_cons_succ, List.getD_cons_zero, List.getD_nil, List.length_cons, List.length_nil, List.map_cons, List.map_nil, List.sum_cons, List.sum_nil, Nat.reduceAdd, Nat.reduceLeDiff, Value.category, Option.toList, true_or, or_true, z_ua, ↓reduceIte, Nat.reduceEqDiff, eq_self, not_true_eq_false, not_false_eq_true, false_implies, true_implies, Classical.not_not, Nat.le_refl, Nat.zero_le, sK10 hS, hg, k5, sG10_9 hS, sK20 hS, sL20 hS]
    try dsimp only
    have hsc2 : x_scale I2 cd N tr := hsc1.congr (ho2.2 3 (by omega) (by omega)) (ho2.1 _ (by omega) (by omega)) (ho2.1 _ (by omega) (by omega))
    refine z_callQ (c51 (I := I2) hS hC.1 (Or.inr rfl) hsc2 (show i < N by omega)) (by omega) (by omega) (by omega) (Nat.le_of_ble_eq_true rfl) ?_
    rintro r h' ⟨rfl, I3, rfl, ho3⟩
    rw [ho.1 19 (by omega) (by omega), ho2.1 20 (by omega) (by omega), ho.1 20 (by omega) (by omega), ← hA i (by omega), ← hB i (by omega)]
    have ho4 := (ho.tr ho2).tr ho3
    have go : ∀ a : Int32, a = x_df A B (i + 1) → zV X 131 [some (.ref 10), some l1, some l2, some l3, some l4, some (.int 0), some (.int a), some (.int (nI i))] [] (n, K, L, I3, J, G) 0 0 := by
      intro a ha
      subst ha
      refine zW_ok hj B102_131 131 _ _ _ _ _ b102_131 ?_
      simp only [B102_131, zW, z_wp1, z_ld, z_f0, z_f1, z_f2, z_f3, List.getElem?_cons_zero, List.getElem?_cons_succ, true_and, and_true, Int32.reduceOfInt, z_i10, z_i01, Int32.reduceLT, Int32.reduceLE, Int32.reduceAdd, Int32.reduceSub, z_set, z_set2, z_kil, List.set_cons_zero, List.set_cons_succ, List.take_succ_cons, List.take_zero, List.drop_succ_cons, List.drop_zero, List.reverse_cons, List.reverse_nil, List.nil_append, List.cons_append, List.getD_cons_succ, List.getD_cons_zero, List.getD_nil, List.length_cons, List.length_nil, List.map_cons, List.map_nil, List.sum_cons, List.sum_nil, Nat.reduceAdd, Nat.reduceLeDiff, Value.category, Option.toList, true_or, or_true, z_ua, ↓reduceIte, Nat.reduceEqDiff, eq_self, not_true_eq_false, not_false_eq_true, false_implies, true_implies, Classical.not_not, Nat.le_refl, Nat.zero_le, nI_1]
      try dsimp only
      exact c102_in hS hC hj hd hm hs hsc0 hA hB hQ k (i + 1) I3 (by omega) ho4
    simp only [zW, z_wp1, z_ld, z_f0, z_f1, z_f2, z_f3, List.getElem?_cons_zero, List.getElem?_cons_succ, true_and, and_true, Int32.reduceOfInt, z_i10, z_i01, Int32.reduceLT, Int32.reduceLE, Int32.reduceAdd, Int32.reduceSub, z_set, z_set2, z_kil, List.set_cons_zero, List.set_cons_succ, List.take_succ_cons, List.take_zero, List.drop_succ_cons, List.drop_zero, List.reverse_cons, List.reverse_nil, List.nil_append, List.cons_append, List.getD_cons_succ, List.getD_cons_zero, List.getD_nil, List.length_cons, List.length_nil, List.map_cons, List.map_nil, List.sum_cons, List.sum_nil, Nat.reduceAdd, Nat.reduceLeDiff, Value.category, Option.toList, true_or, or_true, z_ua, ↓reduceIte, Nat.reduceEqDiff, eq_self, not_true_eq_false, not_false_eq_true, false_implies, true_implies, Classical.not_not, Nat.le_refl, Nat.zero_le]
    try dsimp only
    refine ⟨fun h => go _ ?_, fun h => go _ ?_⟩
    · rw [x_df, if_pos h]
    · rw [x_df, if_neg h]
end X7
