/-! Keys of the class: worst -/
def k_cd (R : Nat) (v : Int32 × Int32 × Int32) : Int32 := nI R <<< (12 &&& 31) ||| v.1 <<< (4 &&& 31) ||| (v.2.1 + 1)
def k_cdn (R : Nat) (v : Int32 × Int32 × Int32) : Prop := ∃ w ch, w < 256 ∧ ch < 16 ∧ v.1 = nI w ∧ v.2.1 + 1 = nI ch ∧ k_cd R v = nI (k_pk R w ch)
theorem k_cd_ok {ys mb co : Nat → Int32} {N R : Nat} (hco : ∀ i, i < N → ∃ c, 1 ≤ c ∧ c ≤ 9 ∧ co i = nI c) (hN : N ≤ 12) (hR : R < 2 ^ 18) {s : Nat} (hs : s < 2 ^ 16) : k_cdn R (k_v ys mb co N s) := by
  obtain ⟨w, hw, ew⟩ := k_v_bd (mb := mb) hco hN s hs
  have h1 := k_sp_N ys (nI s) N
  have hask := k_st_ask ys mb co (k_v ys mb co N) (nI s) N
  rw [← k_v_eq ys mb co N hs] at hask
  have hch : ∃ ch, ch < 16 ∧ (k_v ys mb co N s).2.1 + 1 = nI ch := by
    rcases hask with e | ⟨i, hi, e, _⟩
    · exact ⟨0, by omega, by rw [e]; decide⟩
    · exact ⟨i + 1, by omega, by rw [e, nI_1]⟩
  obtain ⟨ch, hc, ec⟩ := hch
  refine ⟨w, ch, by omega, hc, ew, ec, ?_⟩
  rw [k_cd, ew, ec]
  exact k_pk_eq hR (by omega) hc
/-- the key tree, as it stands: its rows and its plans -/
def XK (K L : Nat → Nat) (G : Nat → Nat → Value) (I : Nat → Nat → Int32) (pp PL F N R : Nat) (ys mb co : Nat → Int32) : Prop := G 53 4 = .ref pp ∧ K pp = 13 ∧ L pp = PL ∧ PL ≤ 65536 ∧ 2 ^ F ≤ PL ∧ (pp = 57 ∨ 103 ≤ pp) ∧ I 53 3 = nI N ∧ N ≤ 12 ∧ F ≤ 16 ∧ I 53 5 = nI R ∧ R < 2 ^ 18 ∧ ∀ i, i < N → I 55 i = ys i ∧ I 56 i = mb i ∧ I 54 i = co i ∧ ∃ c, 1 ≤ c ∧ c ≤ 9 ∧ co i = nI c
/-- a plan of a round -/
abbrev k_rd (x : Int32) : Int32 := (x.toUInt32 >>> (Int32.toUInt32 12 &&& Int32.toUInt32 31)).toInt32
def k_memo (I : Nat → Nat → Int32) (pp PL N R : Nat) (ys mb co : Nat → Int32) : Prop := ∀ t, t < PL → (∃ r, r < R ∧ k_rd (I pp t) = nI r) ∨ I pp t = k_cd R (k_v ys mb co N t)
def k_old (I : Nat → Nat → Int32) (pp PL R : Nat) : Prop := ∀ t, t < PL → ∃ r, r ≤ R ∧ k_rd (I pp t) = nI r
theorem XK.congr {K L : Nat → Nat} {G : Nat → Nat → Value} {I I' : Nat → Nat → Int32} {pp PL F N R : Nat} {ys mb co : Nat → Int32} (h : XK K L G I pp PL F N R ys mb co) (h1 : ∀ q, q ≠ pp → I' q = I q) : XK K L G I' pp PL F N R ys mb co := by
  obtain ⟨a1, a2, a3, a4, a5, a6, a7, a8, a9, a10, a11, a12⟩ := h
  refine ⟨a1, a2, a3, a4, a5, a6, by rw [h1 53 (by omega)]; exact a7, a8, a9, by rw [h1 53 (by omega)]; exact a10, a11, fun i hi => ?_⟩
  rw [h1 55 (by omega), h1 56 (by omega), h1 54 (by omega)]
  exact a12 i hi
section KT2
variable {l : Launch} {n : Nat} {K L : Nat → Nat} {I : Nat → Nat → Int32} {J : Nat → Nat → Int64} {G : Nat → Nat → Value} {pp PL F N R s : Nat} {ys mb co : Nat → Int32}
abbrev k_post (n : Nat) (K L : Nat → Nat) (I : Nat → Nat → Int32) (J : Nat → Nat → Int64) (G : Nat → Nat → Value) (pp PL N R : Nat) (ys mb co : Nat → Int32) (t : Nat) : Option Value → zH → Prop := fun r h' => r = some (.int (k_v ys mb co N t).1) ∧ ∃ I', h' = (n, K, L, I', J, G) ∧ (∀ q, q ≠ pp → I' q = I q) ∧ k_memo I' pp PL N R ys mb co ∧ I' pp t = k_cd R (k_v ys mb co N t)
theorem c24_loop {X : zX} (hS : SS K L G) (hj : X.2.1 = 24) (hl0 : X.1 = l) (hd : X.2.2.1 = 1 + k_sp ys (nI s) N) (hm : X.2.2.2.1 = 0) (hs : X.2.2.2.2.1 = 0) (hX : XK K L G I pp PL F N R ys mb co) (hs16 : s < 2 ^ F) {dep : Nat} (hdep : dep + k_sp ys (nI s) N ≤ 12)
    (IH : ∀ t, t < s → t ≠ 0 → ∀ dep' I', dep' + k_sp ys (nI t) N ≤ 12 → XK K L G I' pp PL F N R ys mb co → k_memo I' pp PL N R ys mb co → z_Ctr l (1 + k_sp ys (nI t) N) 24 [.ref 53, .int (nI t), .int (nI dep')] (n, K, L, I', J, G) 0 0 (k_post n K L I' J G pp PL N R ys mb co t))
    (hQ : ∀ r h', k_post n K L I J G pp PL N R ys mb co s r h' → X.2.2.2.2.2.2 r h') : ∀ (k i : Nat) (I' : Nat → Nat → Int32) (x6 x7 : Option Value), i + k = N → (∀ q, q ≠ pp → I' q = I q) → k_memo I' pp PL N R ys mb co → zV X 37 [some (.ref 53), some (.int (nI s)), some (.int (nI dep)), some (.int (k_st ys mb co (k_v ys mb co N) (nI s) i).1), some (.int ((k_st ys mb co (k_v ys mb co N) (nI s) i).2.1 + 1)), some (.int (nI i)), x6, x7] [] (n, K, L, I', J, G) 0 0
  | 0, i, I', x6, x7, hk, ho, hmm => by
    have e : i = N := by omega
    subst e
    have hX' := hX.congr ho
    obtain ⟨a1, a2, a3, a4, a5, a6, a7, a8, a9, a10, a11, a12⟩ := id hX'
    have hp := z_powF a9
    have e1 : (nI s).toNatClampNeg = s := nI_clamp (by omega)
    have v1 : vp_in (nI s) PL := vp_in_nI (by omega) (by omega)
    refine zW_ok hj B24_37 37 _ _ _ _ _ b24_37 ?_
    simp only [B24_37, zW, z_wp1, z_ld, z_f0, z_f1, z_f2, z_f3, List.getElem?_cons_zero, List.getElem?_cons_succ, true_and, and_true, Int32.reduceOfInt, z_i10, z_i01, Int32.reduceLT, Int32.reduceLE, Int32.reduceAdd, Int32.reduceSub, z_set, z_set2, z_kil, List.set_cons_zero, List.set_cons_succ, List.take_succ_cons, List.take_zero, List.drop_succ_cons, List.drop_zero, List.reverse_cons, List.reverse_nil, List.nil_append, List.cons_append, List.getD_cons_succ, List.getD_cons_zero, List.getD_nil, List.length_cons, List.length_nil, List.map_cons, List.map_nil, List.sum_cons, List.sum_nil, Nat.reduceAdd, Nat.reduceLeDiff, Value.category, Option.toList, true_or, or_true, z_ua, ↓reduceIte, Nat.reduceEqDiff, eq_self, not_true_eq_false, not_false_eq_true, false_implies, true_implies, Classical.not_not, Nat.le_refl, Nat.zero_le, sK53 hS, a7]
    try dsimp only
    refine ⟨fun _ => ?_, fun hc => absurd (nI_le (Nat.le_refl _) (by omega)) hc⟩
    refine zW_ok hj B24_169 169 _ _ _ _ _ b24_169 ?_
    simp only [B24_169, zW, z_wp1, z_ld, z_f0, z_f1, z_f2, z_f3, List.getElem?_cons_zero, List.getElem?_cons_succ, true_and, and_true, Int32.reduceOfInt, z_i10, z_i01, Int32.reduceLT, Int32.reduceLE, Int32.reduceAdd, Int32.reduceSub, z_set, z_set2, z_kil, List.set_cons_zero, List.set_cons_succ, List.take_succ_cons, List.take_zero, List.drop_succ_cons, List.drop_zero, List.reverse_cons, List.reverse_nil, List.nil_append, List.cons_append, List.getD_cons_succ, List.getD_cons_zero, List.getD_nil, List.length_cons, List.length_nil, List.map_cons, List.map_nil, List.sum_cons, List.sum_nil, Nat.reduceAdd, Nat.reduceLeDiff, Value.category, Option.toList, true_or, or_true, z_ua, ↓reduceIte, Nat.reduceEqDiff, eq_self, not_true_eq_false, not_false_eq_true, false_implies, true_implies, Classical.not_not, Nat.le_refl, Nat.zero_le, sK53 hS, a1, a2, a3, a10, e1, v1]
    try dsimp only
    rw [← k_v_eq ys mb co i (show s < 2 ^ 16 by omega)]
    refine hQ _ _ ⟨rfl, _, rfl, fun q hq => by rw [z_u_ne hq]; exact ho q hq, fun t ht => ?_, by rw [z_u_at, if_pos rfl]; rfl⟩
    by_cases et : t = s
    · subst et
      rw [z_u_at, if_pos rfl]
      exact Or.inr rfl
    · rw [z_u_at, if_neg et]
      exact hmm t ht
  | k + 1, i, I', x6, x7, hk, ho, hmm => by
    have hX' := hX.congr ho
    obtain ⟨a1, a2, a3, a4, a5, a6, a7, a8, a9, a10, a11, a12⟩ := id hX'
    have hp := z_powF a9
    obtain ⟨y1, y2, y3, c, c1, c2, y4⟩ := a12 i (by omega)
    have e1 : (nI s).toNatClampNeg = s := nI_clamp (by omega)
    have v1 : vp_in (nI s) PL := vp_in_nI (by omega) (by omega)
    have e2 : (nI i).toNatClampNeg = i := nI_clamp (by omega)
    have v2 : vp_in (nI i) 12 := vp_in_nI (by omega) (by omega)
    have hdl : ¬ (12 : Int32) < nI dep := fun q => by
      have := (nI_ltI (a := 12) (b := dep) (by omega) (by omega)).mp q
      omega
    generalize hpst : k_st ys mb co (k_v ys mb co N) (nI s) i = p at *
    have hnext : k_st ys mb co (k_v ys mb co N) (nI s) (i + 1) = if k_ok ys mb (nI s) i ∧ (p.2.1 = -1 ∨ k_v1 ys co (k_v ys mb co N) (nI s) i < p.1) then (k_v1 ys co (k_v ys mb co N) (nI s) i, nI i, (k_v ys mb co N (nI s &&& ys i).toNatClampNeg).2.2 + (k_v ys mb co N (nI s &&& (ys i ^^^ -1)).toNatClampNeg).2.2) else p := by rw [k_st, hpst]
    have go : ∀ (I2 : Nat → Nat → Int32) (z1 z2 : Int32) (x6 x7 : Option Value), (∀ q, q ≠ pp → I2 q = I q) → k_memo I2 pp PL N R ys mb co → z1 = (k_st ys mb co (k_v ys mb co N) (nI s) (i + 1)).1 → z2 = (k_st ys mb co (k_v ys mb co N) (nI s) (i + 1)).2.1 + 1 → zV X 163 [some (.ref 53), some (.int (nI s)), some (.int (nI dep)), some (.int z1), some (.int z2), some (.int (nI i)), x6, x7] [] (n, K, L, I2, J, G) 0 0 := by
      intro I2 z1 z2 x6 x7 b1 b2 b3 b4
      subst b3 b4
      refine zW_ok hj B24_163 163 _ _ _ _ _ b24_163 ?_
      simp only [B24_163, zW, z_wp1, z_ld, z_f0, z_f1, z_f2, z_f3, List.getElem?_cons_zero, List.getElem?_cons_succ, true_and, and_true, Int32.reduceOfInt, z_i10, z_i01, Int32.reduceLT, Int32.reduceLE, Int32.reduceAdd, Int32.reduceSub, z_set, z_set2, z_kil, List.set_cons_zero, List.set_cons_succ, List.take_succ_cons, List.take_zero, List.drop_succ_cons, List.drop_zero, List.reverse_cons, List.reverse_nil, List.nil_append, List.cons_append, List.getD_cons_succ, List.getD_cons_zero, List.getD_nil, List.length_cons, List.length_nil, List.map_cons, List.map_nil, List.sum_cons, List.sum_nil, Nat.reduceAdd, Nat.reduceLeDiff, Value.category, Option.toList, true_or, or_true, z_ua, ↓reduceIte, Nat.reduceEqDiff, eq_self, not_true_eq_false, not_false_eq_true, false_implies, true_implies, Classical.not_not, Nat.le_refl, Nat.zero_le, nI_1]
      try dsimp only
      exact c24_loop hS hj hl0 hd hm hs hX hs16 hdep IH hQ k (i + 1) I2 _ _ (by omega) b1 b2
    have no : ∀ (I2 : Nat → Nat → Int32) (x6 x7 : Option Value), (∀ q, q ≠ pp → I2 q = I q) → k_memo I2 pp PL N R ys mb co → ¬ (k_ok ys mb (nI s) i ∧ (p.2.1 = -1 ∨ k_v1 ys co (k_v ys mb co N) (nI s) i < p.1)) → zV X 163 [some (.ref 53), some (.int (nI s)), some (.int (nI dep)), some (.int p.1), some (.int (p.2.1 + 1)), some (.int (nI i)), x6, x7] [] (n, K, L, I2, J, G) 0 0 := fun I2 x6 x7 b1 b2 h => go I2 _ _ x6 x7 b1 b2 (by rw [hnext, if_neg h]) (by rw [hnext, if_neg h])
    have hp1 : p.2.1 + 1 = 0 ↔ p.2.1 = -1 := by
      constructor
      · intro h
        have : p.2.1 = p.2.1 + 1 - 1 := by grind
        rw [this, h]
        decide
      · intro h
        rw [h]
        decide
    refine zW_ok hj B24_37 37 _ _ _ _ _ b24_37 ?_
    simp only [B24_37, zW, z_wp1, z_ld, z_f0, z_f1, z_f2, z_f3, List.getElem?_cons_zero, List.getElem?_cons_succ, true_and, and_true, Int32.reduceOfInt, z_i10, z_i01, Int32.reduceLT, Int32.reduceLE, Int32.reduceAdd, Int32.reduceSub, z_set, z_set2, z_kil, List.set_cons_zero, List.set_cons_succ, List.take_succ_cons, List.take_zero, List.drop_succ_cons, List.drop_zero, List.reverse_cons, List.reverse_nil, List.nil_append, List.cons_append, List.getD_cons_succ, List.getD_cons_zero, List.getD_nil, List.length_cons, List.length_nil, List.map_cons, List.map_nil, List.sum_cons, List.sum_nil, Nat.reduceAdd, Nat.reduceLeDiff, Value.category, Option.toList, true_or, or_true, z_ua, ↓reduceIte, Nat.reduceEqDiff, eq_self, not_true_eq_false, not_false_eq_true, false_implies, true_implies, Classical.not_not, Nat.le_refl, Nat.zero_le, sK53 hS, a7, hdl, sG53_1 hS, sK55 hS, sL55 hS, sG53_2 hS, sK56 hS, sL56 hS, e2, v2, y1, y2]
    try dsimp only
    refine ⟨fun hc => absurd hc (nI_ge (by omega) (by omega)), fun _ => ⟨fun h1 => no _ _ _ ho hmm (fun q => q.1.2.1 h1), fun h1 => ⟨fun h2 => no _ _ _ ho hmm (fun q => q.1.2.2 ?_), fun h2 => ⟨fun h3 => ?_, fun h3 => no _ _ _ ho hmm (fun q => h3 q.1.1)⟩⟩⟩⟩
    · rw [z_dsub']; exact h2
    have hok : k_ok ys mb (nI s) i := ⟨h3, h1, fun q => h2 (z_dsub'.mp q)⟩
    obtain ⟨a, b, ea, eb, ha, hb, ha0, hb0, ba, bb⟩ := k_part (by omega) hok
    obtain ⟨sp1, sp2⟩ := k_part_sp (N := N) hok (by omega) ba bb
    have hco : ∀ i, i < N → ∃ c, 1 ≤ c ∧ c ≤ 9 ∧ co i = nI c := fun i hi => (a12 i hi).2.2.2
    obtain ⟨wa, la, xa⟩ := k_v_bd (mb := mb) hco a8 a (by omega)
    obtain ⟨wb, lb, xb⟩ := k_v_bd (mb := mb) hco a8 b (by omega)
    have lsp := k_sp_N ys (nI s) N
    have ev : k_v1 ys co (k_v ys mb co N) (nI s) i = co i + (if nI wa < nI wb then nI wb else nI wa) := by
      rw [k_v1, ea, eb, nI_clamp (by omega), nI_clamp (by omega), xa, xb]
      by_cases q1 : nI wb < nI wa
      · rw [if_pos q1, if_neg (fun q => Int32.lt_irrefl (Int32.lt_trans q1 q))]
      · by_cases q2 : nI wa < nI wb
        · rw [if_neg q1, if_pos q2]
        · rw [if_neg q1, if_neg q2]
          have : wa = wb := by
            rw [nI_ltI (by omega) (by omega)] at q1 q2
            omega
          rw [this]
    rw [ea]
    have body : zV X 108 [some (.ref 53), some (.int (nI s)), some (.int (nI dep)), some (.int p.1), some (.int (p.2.1 + 1)), some (.int (nI i)), some (.int (nI a)), x7] [] (n, K, L, I', J, G) 0 0 := by
      refine zW_ok hj B24_108 108 _ _ _ _ _ b24_108 ?_
      simp only [B24_108, zW, z_wp1, z_ld, z_f0, z_f1, z_f2, z_f3, List.getElem?_cons_zero, List.getElem?_cons_succ, true_and, and_true, Int32.reduceOfInt, z_i10, z_i01, Int32.reduceLT, Int32.reduceLE, Int32.reduceAdd, Int32.reduceSub, z_set, z_set2, z_kil, List.set_cons_zero, List.set_cons_succ, List.take_succ_cons, List.take_zero, List.drop_succ_cons, List.drop_zero, List.reverse_cons, List.reverse_nil, List.nil_append, List.cons_append, List.getD_cons_succ, List.getD_cons_zero, List.getD_nil, List.length_cons, List.length_nil, List.map_cons, List.map_nil, List.sum_cons, List.sum_nil, Nat.reduceAdd, Nat.reduceLeDiff, Value.category, Option.toList, true_or, or_true, z_ua, ↓reduceIte, Nat.reduceEqDiff, eq_self, not_true_eq_false, not_false_eq_true, false_implies, true_implies, Classical.not_not, Nat.le_refl, Nat.zero_le, sK53 hS, sG53_0 hS, sK54 hS, sL54 hS, e2, v2, y3, nI_1]
      try dsimp only
      subst hl0
      refine z_callQ (IH a ha ha0 (dep + 1) I' (by omega) hX' hmm) (by omega) (by omega) (by omega) (Nat.le_of_ble_eq_true rfl) ?_
      rintro r h' ⟨rfl, I2, rfl, o2, m2, -⟩
      have eb2 : nI s &&& (nI a ^^^ -1) = nI b := by
        rw [← eb]
        refine zb_ext (fun j hj => ?_)
        rw [z_xn, z_xn, zb_and, zb_and, zb_not, zb_not, ba]
        cases zb (nI s) j <;> simp
      simp only [zW, z_wp1, z_ld, z_f0, z_f1, z_f2, z_f3, List.getElem?_cons_zero, List.getElem?_cons_succ, true_and, and_true, Int32.reduceOfInt, z_i10, z_i01, Int32.reduceLT, Int32.reduceLE, Int32.reduceAdd, Int32.reduceSub, z_set, z_set2, z_kil, List.set_cons_zero, List.set_cons_succ, List.take_succ_cons, List.take_zero, List.drop_succ_cons, List.drop_zero, List.reverse_cons, List.reverse_nil, List.nil_append, List.cons_append, List.getD_cons_succ, List.getD_cons_zero, List.getD_nil, List.length_cons, List.length_nil, List.map_cons, List.map_nil, List.sum_cons, List.sum_nil, Nat.reduceAdd, Nat.reduceLeDiff, Value.category, Option.toList, true_or, or_true, z_ua, ↓reduceIte, Nat.reduceEqDiff, eq_self, not_true_eq_false, not_false_eq_true, false_implies, true_implies, Classical.not_not, Nat.le_refl, Nat.zero_le, sK53 hS, eb2, nI_1]
      try dsimp only
      have ho2 : ∀ q, q ≠ pp → I2 q = I q := fun q hq => (o2 q hq).trans (ho q hq)
      refine z_callQ (IH b hb hb0 (dep + 1) I2 (by omega) (hX.congr ho2) m2) (by omega) (by omega) (by omega) (Nat.le_of_ble_eq_true rfl) ?_
      rintro r h' ⟨rfl, I3, rfl, o3, m3, -⟩
      have ho3 : ∀ q, q ≠ pp → I3 q = I q := fun q hq => (o3 q hq).trans (ho2 q hq)
      simp only [zW, z_wp1, z_ld, z_f0, z_f1, z_f2, z_f3, List.getElem?_cons_zero, List.getElem?_cons_succ, true_and, and_true, Int32.reduceOfInt, z_i10, z_i01, Int32.reduceLT, Int32.reduceLE, Int32.reduceAdd, Int32.reduceSub, z_set, z_set2, z_kil, List.set_cons_zero, List.set_cons_succ, List.take_succ_cons, List.take_zero, List.drop_succ_cons, List.drop_zero, List.reverse_cons, List.reverse_nil, List.nil_append, List.cons_append, List.getD_cons_succ, List.getD_cons_zero, List.getD_nil, List.length_cons, List.length_nil, List.map_cons, List.map_nil, List.sum_cons, List.sum_nil, Nat.reduceAdd, Nat.reduceLeDiff, Value.category, Option.toList, true_or, or_true, z_ua, ↓reduceIte, Nat.reduceEqDiff, eq_self, not_true_eq_false, not_false_eq_true, false_implies, true_implies, Classical.not_not, Nat.le_refl, Nat.zero_le, xa, xb]
      try dsimp only
      refine ⟨by omega, ?_⟩
      rw [← ev, hp1]
      have yes : (p.2.1 = -1 ∨ k_v1 ys co (k_v ys mb co N) (nI s) i < p.1) → zV X 154 [some (.ref 53), some (.int (nI s)), some (.int (nI dep)), some (.int p.1), some (.int (p.2.1 + 1)), some (.int (nI i)), some (.int (nI a)), some (.int (k_v1 ys co (k_v ys mb co N) (nI s) i))] [] (n, K, L, I3, J, G) 0 0 := by
        intro hc
        refine zW_ok hj B24_154 154 _ _ _ _ _ b24_154 ?_
        simp only [B24_154, zW, z_wp1, z_ld, z_f0, z_f1, z_f2, z_f3, List.getElem?_cons_zero, List.getElem?_cons_succ, true_and, and_true, Int32.reduceOfInt, z_i10, z_i01, Int32.reduceLT, Int32.reduceLE, Int32.reduceAdd, Int32.reduceSub, z_set, z_set2, z_kil, List.set_cons_zero, List.set_cons_succ, List.take_succ_cons, List.take_zero, List.drop_succ_cons, List.drop_zero, List.reverse_cons, List.reverse_nil, List.nil_append, List.cons_append, List.getD_cons_succ, List.getD_cons_zero, List.getD_nil, List.length_cons, List.length_nil, List.map_cons, List.map_nil, List.sum_cons, List.sum_nil, Nat.reduceAdd, Nat.reduceLeDiff, Value.category, Option.toList, true_or, or_true, z_ua, ↓reduceIte, Nat.reduceEqDiff, eq_self, not_true_eq_false, not_false_eq_true, false_implies, true_implies, Classical.not_not, Nat.le_refl, Nat.zero_le]
        try dsimp only
        exact go _ _ _ _ _ ho3 m3 (by rw [hnext, if_pos ⟨hok, hc⟩]) (by rw [hnext, if_pos ⟨hok, hc⟩])
      exact ⟨fun h => yes (Or.inl h), fun h => ⟨fun h' => no _ _ _ ho3 m3 (fun q => q.2.elim h (fun z => Int32.not_le.mpr z h')), fun h' => yes (Or.inr (Int32.not_le.mp h'))⟩⟩
    refine zW_ok hj B24_89 89 _ _ _ _ _ b24_89 ?_
    simp only [B24_89, zW, z_wp1, z_ld, z_f0, z_f1, z_f2, z_f3, List.getElem?_cons_zero, List.getElem?_cons_succ, true_and, and_true, Int32.reduceOfInt, z_i10, z_i01, Int32.reduceLT, Int32.reduceLE, Int32.reduceAdd, Int32.reduceSub, z_set, z_set2, z_kil, List.set_cons_zero, List.set_cons_succ, List.take_succ_cons, List.take_zero, List.drop_succ_cons, List.drop_zero, List.reverse_cons, List.reverse_nil, List.nil_append, List.cons_append, List.getD_cons_succ, List.getD_cons_zero, List.getD_nil, List.length_cons, List.length_nil, List.map_cons, List.map_nil, List.sum_cons, List.sum_nil, Nat.reduceAdd, Nat.reduceLeDiff, Value.category, Option.toList, true_or, or_true, z_ua, ↓reduceIte, Nat.reduceEqDiff, eq_self, not_true_eq_false, not_false_eq_true, false_implies, true_implies, Classical.not_not, Nat.le_refl, Nat.zero_le, sK53 hS, sG53_0 hS, sK54 hS, sL54 hS, e2, v2, y3, hp1]
    try dsimp only
    refine ⟨fun _ => body, fun h => ⟨fun _ => body, fun h' => no _ _ _ ho hmm (fun q => q.2.elim h (fun z => h' ?_))⟩⟩
    refine Int32.lt_of_le_of_lt ?_ z
    rw [ev, y4]
    by_cases q1 : nI wa < nI wb
    · rw [if_pos q1, nI_add]; exact nI_le (by omega) (by omega)
    · rw [if_neg q1, nI_add]; exact nI_le (by omega) (by omega)
theorem c24 (hS : SS K L G) : ∀ (s : Nat), s < 2 ^ F → s ≠ 0 → ∀ (dep : Nat) (I : Nat → Nat → Int32), dep + k_sp ys (nI s) N ≤ 12 → XK K L G I pp PL F N R ys mb co → k_memo I pp PL N R ys mb co → z_Ctr l (1 + k_sp ys (nI s) N) 24 [.ref 53, .int (nI s), .int (nI dep)] (n, K, L, I, J, G) 0 0 (k_post n K L I J G pp PL N R ys mb co s) := by
  intro s
  induction s using Nat.strongRecOn with
  | ind s ih =>
    intro hsF hs0 dep I hdep hX hmm
    obtain ⟨a1, a2, a3, a4, a5, a6, a7, a8, a9, a10, a11, a12⟩ := id hX
    have hp := z_powF a9
    have hco : ∀ i, i < N → ∃ c, 1 ≤ c ∧ c ≤ 9 ∧ co i = nI c := fun i hi => (a12 i hi).2.2.2
    have e1 : (nI s).toNatClampNeg = s := nI_clamp (by omega)
    have v1 : vp_in (nI s) PL := vp_in_nI (by omega) (by omega)
    refine z_ctr (by decide) (by decide +kernel) (Nat.le_of_ble_eq_true rfl) (by decide +kernel) (fun X hl hj hd hm hs hsc hQ => ?_)
    show zV X 0 [some (.ref 53), some (.int (nI s)), some (.int (nI dep)), none, none, none, none, none] [] _ 0 0
    refine zW_ok hj B24_0 0 _ _ _ _ _ b24_0 ?_
    simp only [B24_0, zW, z_wp1, z_ld, z_f0, z_f1, z_f2, z_f3, List.getElem?_cons_zero, List.getElem?_cons_succ, true_and, and_true, Int32.reduceOfInt, z_i10, z_i01, Int32.reduceLT, Int32.reduceLE, Int32.reduceAdd, Int32.reduceSub, z_set, z_set2, z_kil, List.set_cons_zero, List.set_cons_succ, List.take_succ_cons, List.take_zero, List.drop_succ_cons, List.drop_zero, List.reverse_cons, List.reverse_nil, List.nil_append, List.cons_append, List.getD_cons_succ, List.getD_cons_zero, List.getD_nil, List.length_cons, List.length_nil, List.map_cons, List.map_nil, List.sum_cons, List.sum_nil, Nat.reduceAdd, Nat.reduceLeDiff, Value.category, Option.toList, true_or, or_true, z_ua, ↓reduceIte, Nat.reduceEqDiff, eq_self, not_true_eq_false, not_false_eq_true, false_implies, true_implies, Classical.not_not, Nat.le_refl, Nat.zero_le, sK53 hS, a1, a2, a3, e1, v1, a10]
    try dsimp only
    refine ⟨fun _ => ?_, fun h => ?_⟩
    · refine zW_ok hj B24_29 29 _ _ _ _ _ b24_29 ?_
      simp only [B24_29, zW, z_wp1, z_ld, z_f0, z_f1, z_f2, z_f3, List.getElem?_cons_zero, List.getElem?_cons_succ, true_and, and_true, Int32.reduceOfInt, z_i10, z_i01, Int32.reduceLT, Int32.reduceLE, Int32.reduceAdd, Int32.reduceSub, z_set, z_set2, z_kil, List.set_cons_zero, List.set_cons_succ, List.take_succ_cons, List.take_zero, List.drop_succ_cons, List.drop_zero, List.reverse_cons, List.reverse_nil, List.nil_append, List.cons_append, List.getD_cons_succ, List.getD_cons_zero, List.getD_nil, List.length_cons, List.length_nil, List.map_cons, List.map_nil, List.sum_cons, List.sum_nil, Nat.reduceAdd, Nat.reduceLeDiff, Value.category, Option.toList, true_or, or_true, z_ua, ↓reduceIte, Nat.reduceEqDiff, eq_self, not_true_eq_false, not_false_eq_true, false_implies, true_implies, Classical.not_not, Nat.le_refl, Nat.zero_le]
      try dsimp only
      exact (c24_loop (I := I) hS hj hl hd hm hs hX hsF hdep (fun t ht ht0 dep' I' q1 q2 q3 => ih t ht (by omega) ht0 dep' I' q1 q2 q3) hQ N 0 I none none (by omega) (fun _ _ => rfl) hmm).weak (by simp only [z_le, k_st, nI_0]; simp)
    · have h2 : I pp s = k_cd R (k_v ys mb co N s) := by
        rcases hmm s (by omega) with ⟨r, hr, er⟩ | q
        · have := (nI_eq (by omega) (by omega)).mp (er.symm.trans h)
          omega
        · exact q
      obtain ⟨w, ch, hw, hc, ew, ec, ecd⟩ := k_cd_ok (ys := ys) (mb := mb) (co := co) hco a8 a11 (s := s) (by omega)
      refine hQ _ _ ⟨?_, I, rfl, fun _ _ => rfl, hmm, h2⟩
      rw [h2, ecd, k_pk_w a11 hw hc, ew]
end KT2
