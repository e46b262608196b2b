/-! Crosses of the class: search -/
section CRS8
variable {l : Launch} {n : Nat} {K L : Nat → Nat} {I : Nat → Nat → Int32} {J : Nat → Nat → Int64} {G : Nat → Nat → Value} {as cn d t : Nat} {w : Nat → Nat}
theorem c4_loop {X : zX} (hS : SS K L G) (hj : X.2.1 = 4) (hl0 : X.1 = l) {k : Nat} (hdp : X.2.2.1 = 3 + (k + 1)) (hm : X.2.2.2.1 = 0) (hs : X.2.2.2.2.1 = 0) (hq : XCs I as cn) (hk : d + (k + 1) = cn) (hP : c_Pd cn d w) (ht : t < 2 ^ cn) (htb : ∀ p, zb (nI t) p = c_u w d p) (hst : c_st I as cn w d) {ls : Nat} {be : Nat → Nat}
    (IH : ∀ (w' : Nat → Nat) (t' : Nat) (I' : Nat → Nat → Int32) (ls : Nat) (be : Nat → Nat), XCs I' as cn → c_Pd cn (d + 1) w' → t' < 2 ^ cn → (∀ p, zb (nI t') p = c_u w' (d + 1) p) → c_st I' as cn w' (d + 1) → I' 43 15 = nI ls → ls < 2 ^ 31 → (∀ i, i < cn → I' 52 i = nI (be i)) → z_Ctr l (3 + k) 4 [.ref 43, .int (nI (d + 1)), .int (nI t')] (n, K, L, I', J, G) 0 0 (c4_post n K L I' J G as cn w' (d + 1) ls be))
    (hQ : ∀ r h', c4_post n K L I J G as cn w d ls be r h' → X.2.2.2.2.2.2 r h') : ∀ (f p : Nat) (I' : Nat → Nat → Int32) (ls' : Nat) (be' : Nat → Nat) (x4 x5 : Option Value), p + f = cn → c_fr I I' d → I' 43 15 = nI ls' → ls' < 2 ^ 31 → (∀ i, i < cn → I' 52 i = nI (be' i)) → c_im (c_C (xH I) cn as) cn (fun v => c_S (I 46) cn w d v ∧ v d < p) (fun b => c_E cn w d b ∧ b d < p) ls be ls' be' → zV X 16 [some (.ref 43), some (.int (nI d)), some (.int (nI t)), some (.int (nI p)), x4, x5] [] (n, K, L, I', J, G) 0 0 := by
  obtain ⟨q1, q2, q3, q4, q5⟩ := id hq
  have z1 := z_zs (cn := cn) (by omega)
  intro f
  induction f with
  | zero =>
    intro p I' ls' be' x4 x5 hf hfr h15 hl31 hbe him
    have e : p = cn := by omega
    subst e
    obtain ⟨r1, r2, r3, r4, r5⟩ := id (hfr.XCs hq)
    refine zW_ok hj B4_16 16 _ _ _ _ _ b4_16 ?_
    simp only [B4_16, zW, z_wp1, z_ld, z_f0, z_f1, z_f2, z_f3, List.getElem?_cons_zero, List.getElem?_cons_succ, true_and, and_true, Int32.reduceOfInt, z_i10, z_i01, Int32.reduceLT, Int32.reduceLE, Int32.reduceAdd, Int32.reduceSub, z_set, z_set2, z_kil, List.set_cons_zero, List.set_cons_succ, List.take_succ_cons, List.take_zero, List.drop_succ_cons, List.drop_zero, List.reverse_cons, List.reverse_nil, List.nil_append, List.cons_append, List.getD_cons_succ, List.getD_cons_zero, List.getD_nil, List.length_cons, List.length_nil, List.map_cons, List.map_nil, List.sum_cons, List.sum_nil, Nat.reduceAdd, Nat.reduceLeDiff, Value.category, Option.toList, true_or, or_true, z_ua, ↓reduceIte, Nat.reduceEqDiff, eq_self, not_true_eq_false, not_false_eq_true, false_implies, true_implies, Classical.not_not, Nat.le_refl, Nat.zero_le, sK43 hS, r1]
    try dsimp only
    refine ⟨fun _ => ?_, fun z => absurd (nI_le (Nat.le_refl _) (by omega)) z⟩
    refine zW_ok hj B4_125 125 _ _ _ _ _ b4_125 ?_
    simp only [B4_125, zW, z_wp1, z_ld, z_f0, z_f1, z_f2, z_f3, List.getElem?_cons_zero, List.getElem?_cons_succ, true_and, and_true, Int32.reduceOfInt, z_i10, z_i01, Int32.reduceLT, Int32.reduceLE, Int32.reduceAdd, Int32.reduceSub, z_set, z_set2, z_kil, List.set_cons_zero, List.set_cons_succ, List.take_succ_cons, List.take_zero, List.drop_succ_cons, List.drop_zero, List.reverse_cons, List.reverse_nil, List.nil_append, List.cons_append, List.getD_cons_succ, List.getD_cons_zero, List.getD_nil, List.length_cons, List.length_nil, List.map_cons, List.map_nil, List.sum_cons, List.sum_nil, Nat.reduceAdd, Nat.reduceLeDiff, Value.category, Option.toList, true_or, or_true, z_ua, ↓reduceIte, Nat.reduceEqDiff, eq_self, not_true_eq_false, not_false_eq_true, false_implies, true_implies, Classical.not_not, Nat.le_refl, Nat.zero_le]
    try dsimp only
    refine hQ _ _ ⟨rfl, I', ls', be', rfl, hfr, h15, hbe, fun v hv => him.1 v ⟨hv, hv.1.1.1 d (by omega)⟩, ?_⟩
    rcases him.2 with z | ⟨z1, z2, z3, z4, z5⟩
    · exact Or.inl z
    · exact Or.inr ⟨z1, z2, z3.1, z4, fun v hv hl => z5 v ⟨hv, hv.1.1.1 d (by omega)⟩ hl⟩
  | succ f ih =>
    intro p I' ls' be' x4 x5 hf hfr h15 hl31 hbe him
    obtain ⟨r1, r2, r3, r4, r5⟩ := id (hfr.XCs hq)
    have e46 : I' 46 = I 46 := hfr.1 46 (by decide) (by decide) (by decide) (by decide) (by decide) (by decide)
    have e47 : xH I' = xH I := by unfold xH; rw [hfr.1 47 (by decide) (by decide) (by decide) (by decide) (by decide) (by decide)]
    have hst' := hfr.st q4 hst
    have ep : (nI p).toNatClampNeg = p := nI_clamp (by omega)
    have vp : vp_in (nI p) 8 := vp_in_nI (by omega) (by omega)
    have ed : (nI d).toNatClampNeg = d := nI_clamp (by omega)
    have vd : vp_in (nI d) 8 := vp_in_nI (by omega) (by omega)
    have e0 : (0 : Int32).toNatClampNeg = 0 := by decide
    have v0 : vp_in 0 8 := by rw [← nI_0]; exact vp_in_nI (by omega) (by omega)
    -- on to the next place
    have go : ∀ (I2 : Nat → Nat → Int32) (ls2 : Nat) (be2 : Nat → Nat) (x4 x5 : Option Value), c_fr I I2 d → I2 43 15 = nI ls2 → ls2 < 2 ^ 31 → (∀ i, i < cn → I2 52 i = nI (be2 i)) → c_im (c_C (xH I) cn as) cn (c_S (I 46) cn (c_up w d p) (d + 1)) (c_E cn (c_up w d p) (d + 1)) ls' be' ls2 be2 → zV X 119 [some (.ref 43), some (.int (nI d)), some (.int (nI t)), some (.int (nI p)), x4, x5] [] (n, K, L, I2, J, G) 0 0 := by
      intro I2 ls2 be2 x4 x5 g1 g2 g3 g4 g5
      refine zW_ok hj B4_119 119 _ _ _ _ _ b4_119 ?_
      simp only [B4_119, zW, z_wp1, z_ld, z_f0, z_f1, z_f2, z_f3, List.getElem?_cons_zero, List.getElem?_cons_succ, true_and, and_true, Int32.reduceOfInt, z_i10, z_i01, Int32.reduceLT, Int32.reduceLE, Int32.reduceAdd, Int32.reduceSub, z_set, z_set2, z_kil, List.set_cons_zero, List.set_cons_succ, List.take_succ_cons, List.take_zero, List.drop_succ_cons, List.drop_zero, List.reverse_cons, List.reverse_nil, List.nil_append, List.cons_append, List.getD_cons_succ, List.getD_cons_zero, List.getD_nil, List.length_cons, List.length_nil, List.map_cons, List.map_nil, List.sum_cons, List.sum_nil, Nat.reduceAdd, Nat.reduceLeDiff, Value.category, Option.toList, true_or, or_true, z_ua, ↓reduceIte, Nat.reduceEqDiff, eq_self, not_true_eq_false, not_false_eq_true, false_implies, true_implies, Classical.not_not, Nat.le_refl, Nat.zero_le, nI_1]
      try dsimp only
      exact ih (p + 1) I2 ls2 be2 x4 x5 (by omega) g1 g2 g3 g4 (c_im_st (by omega) (by omega) him g5)
    have skip : ∀ x4 x5 : Option Value, (∀ v, c_S (I 46) cn (c_up w d p) (d + 1) v → ls' ≤ c_C (xH I) cn as v) → zV X 119 [some (.ref 43), some (.int (nI d)), some (.int (nI t)), some (.int (nI p)), x4, x5] [] (n, K, L, I', J, G) 0 0 := fun x4 x5 h => go I' ls' be' x4 x5 hfr h15 hl31 hbe (c_im.no h)
    refine zW_ok hj B4_16 16 _ _ _ _ _ b4_16 ?_
    simp only [B4_16, zW, z_wp1, z_ld, z_f0, z_f1, z_f2, z_f3, List.getElem?_cons_zero, List.getElem?_cons_succ, true_and, and_true, Int32.reduceOfInt, z_i10, z_i01, Int32.reduceLT, Int32.reduceLE, Int32.reduceAdd, Int32.reduceSub, z_set, z_set2, z_kil, List.set_cons_zero, List.set_cons_succ, List.take_succ_cons, List.take_zero, List.drop_succ_cons, List.drop_zero, List.reverse_cons, List.reverse_nil, List.nil_append, List.cons_append, List.getD_cons_succ, List.getD_cons_zero, List.getD_nil, List.length_cons, List.length_nil, List.map_cons, List.map_nil, List.sum_cons, List.sum_nil, Nat.reduceAdd, Nat.reduceLeDiff, Value.category, Option.toList, true_or, or_true, z_ua, ↓reduceIte, Nat.reduceEqDiff, eq_self, not_true_eq_false, not_false_eq_true, false_implies, true_implies, Classical.not_not, Nat.le_refl, Nat.zero_le, sK43 hS, r1, sG43_7 hS, sK46 hS, sL46 hS, ep, vp]
    try dsimp only
    refine ⟨fun z => absurd z (nI_ge (by omega) (by omega)), fun _ => ⟨fun h => skip _ _ (fun v hv => ?_), fun hnu => ⟨fun h => ?_, fun h => skip _ _ (fun v hv => ?_)⟩⟩⟩
    · have := (c_no1 (by omega) hv).2.2
      rw [← htb] at this
      exact absurd ((zb_get0 (by omega)).mpr this) h
    · have hu : c_u w d p = false := by rw [← htb]; exact (zb_get0 (by omega)).mp hnu
      have hPu := c_up_P hP (show p < cn by omega) hu
      obtain ⟨o1, o2, o3⟩ := z_bit1 (t := t) (f := p) (by omega) (by omega)
      have hnow : t ||| 2 ^ p < 2 ^ cn := Nat.or_lt_two_pow ht (Nat.pow_lt_pow_right (by omega) (by omega))
      have hnb : ∀ q, zb (nI (t ||| 2 ^ p)) q = c_u (c_up w d p) (d + 1) q := fun q => by
        rw [o3, c_up_u, htb]
        unfold s_add
        by_cases z : q = p
        · simp [z]
        · simp [z]
      have rb : ∀ q, zb (nI (2 ^ cn - 1) &&& (nI (t ||| 2 ^ p) ^^^ -1)) q = (decide (q < cn) && !c_u (c_up w d p) (d + 1) q) := fun q => by
        rw [z_xn, zb_and, zb_not, z_zs_b (by omega), hnb]
        by_cases z : q < cn
        · simp [z]; omega
        · simp [z]
      obtain ⟨R, hR, eR⟩ := zb_toN (s := nI (2 ^ cn - 1) &&& (nI (t ||| 2 ^ p) ^^^ -1)) (N := 16) (by omega) (fun q hq => by rw [rb]; simp; omega)
      rw [eR] at rb
      have h0 : z_u I' 51 d (nI p) 51 0 = nI (c_up w d p 0) := by
        rw [z_u_at]
        unfold c_up
        by_cases z : 0 = d
        · rw [if_pos z, if_pos z]
        · rw [if_neg z, if_neg z]
          exact hst'.2 0 (by omega)
      have h00 : c_up w d p 0 < cn := hPu.1 0 (by omega)
      -- the heap with the place laid
      have hfr2 : c_fr I' (z_u I' 51 d (nI p)) d := ⟨fun q a b c d e f => by rw [z_u_ne e], fun k _ => by rw [z_u_ne (by decide)], fun i hi => by rw [z_u_at, if_neg (by omega)], fun j _ => ⟨by rw [z_u_ne (by decide)], by rw [z_u_ne (by decide)], by rw [z_u_ne (by decide)]⟩⟩
      have g15 : z_u I' 51 d (nI p) 43 15 = nI ls' := by rw [z_u_ne (by decide)]; exact h15
      have g52 : ∀ i, i < cn → z_u I' 51 d (nI p) 52 i = nI (be' i) := fun i hi => by rw [z_u_ne (by decide)]; exact hbe i hi
      have skip2 : ∀ x4 x5 : Option Value, (∀ v, c_S (I 46) cn (c_up w d p) (d + 1) v → ls' ≤ c_C (xH I) cn as v) → zV X 119 [some (.ref 43), some (.int (nI d)), some (.int (nI t)), some (.int (nI p)), x4, x5] [] (n, K, L, z_u I' 51 d (nI p), J, G) 0 0 := fun x4 x5 h => go _ ls' be' x4 x5 (hfr.tr hfr2) g15 hl31 g52 (c_im.no h)
      have body : ∀ x5 : Option Value, zV X 97 [some (.ref 43), some (.int (nI d)), some (.int (nI t)), some (.int (nI p)), some (.int (nI (t ||| 2 ^ p))), x5] [] (n, K, L, z_u I' 51 d (nI p), J, G) 0 0 := by
        intro x5
        have hst2 := (hfr.tr hfr2).st q4 hst
        obtain ⟨s1, s2, s3, s4, s5⟩ := id ((hfr.tr hfr2).XCs hq)
        have eH2 : xH (z_u I' 51 d (nI p)) = xH I := by unfold xH; rw [z_u_ne (by decide)]; exact e47
        have ex := c_l_ext (h := xH I) (n := cn) (d := d) (v := c_up w d p) (w := w) (fun i hi => c_up_lt hi)
        have c6i := c6 (l := l) (n := n) (I := z_u I' 51 d (nI p)) (J := J) (d := d) (p := p) (A := c_lA (xH I) (c_up w d p) d) (B := c_lB (xH I) (c_up w d p) d) (T := c_lT (xH I) cn (c_up w d p) d) (tot := fun m => s_rk (xH I m) cn) hS s3 q4 (by omega) (by omega) (by
          rw [ex.1, ex.2.1, ex.2.2]
          have := hst2.1 d (Nat.le_refl _)
          rw [eH2] at this
          exact this) (by have := hst2.to; rw [eH2] at this; exact this) (c_lok (by omega) (hPu.le (by omega))) (fun m hm hz => by
          have h1 := hPu.rk (xH I m)
          have h2 : xH I m (c_up w d p d) = true := by rw [c_up_at, ← eH2]; exact hz
          rw [s_rk, if_pos h2] at h1
          unfold c_lT
          omega)
        have eh : (fun m => zb (z_u I' 51 d (nI p) 47 m) p) = fun m => xH I m (c_up w d p d) := by
          funext m
          rw [c_up_at, ← eH2]
        rw [eh, c_lA_s, c_lB_s, c_lT_s] at c6i
        have bC : c_bd (xH I) cn as (c_up w d p) (d + 1) ≤ 200 := by
          unfold c_bd c_sm
          have : ∀ m, m ≤ 12 → s_sum (fun m => s_rk (xH I m) cn - max (c_lA (xH I) (c_up w d p) (d + 1) m) (c_lB (xH I) (c_up w d p) (d + 1) m + c_lT (xH I) cn (c_up w d p) (d + 1) m)) m ≤ m * 16 := fun m => by
            induction m with
            | zero => intro _; exact Nat.le_refl _
            | succ m ih =>
              intro h'
              have := s_rk_n (xH I m) cn
              have := ih (by omega)
              rw [s_sum]
              omega
          exact Nat.le_trans (this as q4) (by omega)
        have hle : nI ls' ≤ nI (c_bd (xH I) cn as (c_up w d p) (d + 1)) ↔ ls' ≤ c_bd (xH I) cn as (c_up w d p) (d + 1) := nI_leI hl31 (by omega)
        subst hl0
        refine zW_ok hj B4_97 97 _ _ _ _ _ b4_97 ?_
        simp only [B4_97, zW, z_wp1, z_ld, z_f0, z_f1, z_f2, z_f3, List.getElem?_cons_zero, List.getElem?_cons_succ, true_and, and_true, Int32.reduceOfInt, z_i10, z_i01, Int32.reduceLT, Int32.reduceLE, Int32.reduceAdd, Int32.reduceSub, z_set, z_set2, z_kil, List.set_cons_zero, List.set_cons_succ, List.take_succ_cons, List.take_zero, List.drop_succ_cons, List.drop_zero, List.reverse_cons, List.reverse_nil, List.nil_append, List.cons_append, List.getD_cons_succ, List.getD_cons_zero, List.getD_nil, List.length_cons, List.length_nil, List.map_cons, List.map_nil, List.sum_cons, List.sum_nil, Nat.reduceAdd, Nat.reduceLeDiff, Value.category, Option.toList, true_or, or_true, z_ua, ↓reduceIte, Nat.reduceEqDiff, eq_self, not_true_eq_false, not_false_eq_true, false_implies, true_implies, Classical.not_not, Nat.le_refl, Nat.zero_le, sK43 hS]
        try dsimp only
        refine z_callQ c6i (by omega) (by omega) (by omega) (Nat.le_of_ble_eq_true rfl) ?_
        rintro r h' ⟨rfl, I3, rfl, o1', o2', o3'⟩
        have h315 : I3 43 15 = nI ls' := by rw [o1' 43 (by decide) (by decide) (by decide)]; exact g15
        have g352 : ∀ i, i < cn → I3 52 i = nI (be' i) := fun i hi => by rw [o1' 52 (by decide) (by decide) (by decide)]; exact g52 i hi
        have hfr3 : c_fr (z_u I' 51 d (nI p)) I3 d := ⟨fun q a b c d _ _ => o1' q b c d, fun k _ => by rw [o1' 43 (by decide) (by decide) (by decide)], fun i _ => by rw [o1' 51 (by decide) (by decide) (by decide)], fun j hj => o2' j hj⟩
        have hfrI := (hfr.tr hfr2).tr hfr3
        rw [show c_sm (c_lA (xH I) (c_up w d p) (d + 1)) (c_lB (xH I) (c_up w d p) (d + 1)) (c_lT (xH I) cn (c_up w d p) (d + 1)) (fun m => s_rk (xH I m) cn) as = c_bd (xH I) cn as (c_up w d p) (d + 1) from rfl]
        simp only [zW, z_wp1, z_ld, z_f0, z_f1, z_f2, z_f3, List.getElem?_cons_zero, List.getElem?_cons_succ, true_and, and_true, Int32.reduceOfInt, z_i10, z_i01, Int32.reduceLT, Int32.reduceLE, Int32.reduceAdd, Int32.reduceSub, z_set, z_set2, z_kil, List.set_cons_zero, List.set_cons_succ, List.take_succ_cons, List.take_zero, List.drop_succ_cons, List.drop_zero, List.reverse_cons, List.reverse_nil, List.nil_append, List.cons_append, List.getD_cons_succ, List.getD_cons_zero, List.getD_nil, List.length_cons, List.length_nil, List.map_cons, List.map_nil, List.sum_cons, List.sum_nil, Nat.reduceAdd, Nat.reduceLeDiff, Value.category, Option.toList, true_or, or_true, z_ua, ↓reduceIte, Nat.reduceEqDiff, eq_self, not_true_eq_false, not_false_eq_true, false_implies, true_implies, Classical.not_not, Nat.le_refl, Nat.zero_le, sK43 hS, h315, hle, nI_1]
        try dsimp only
        refine ⟨fun hge => ?_, fun hlt => ?_⟩
        · exact go I3 ls' be' _ _ hfrI h315 hl31 g352 (c_im.no (fun v hv => Nat.le_trans hge (c_no4 (by omega) hv)))
        · have eH3 : xH I3 = xH I := by unfold xH; rw [o1' 47 (by decide) (by decide) (by decide)]; exact eH2
          have hst3 : c_st I3 as cn (c_up w d p) (d + 1) := by
            refine ⟨fun e he => ?_, fun i hi => ?_⟩
            · rw [eH3]
              by_cases z : e = d + 1
              · rw [z]; exact o3'
              · have hh := (hfrI.st q4 hst).1 e (by omega)
                rw [eH3] at hh
                have ex := c_l_ext (h := xH I) (n := cn) (d := e) (v := c_up w d p) (w := w) (fun i hi => c_up_lt (by omega))
                rw [ex.1, ex.2.1, ex.2.2]
                exact hh
            · rw [o1' 51 (by decide) (by decide) (by decide), z_u_at]
              unfold c_up
              by_cases z : i = d
              · rw [if_pos z, if_pos z]
              · rw [if_neg z, if_neg z]
                exact hst'.2 i (by omega)
          refine z_callQ (IH (c_up w d p) (t ||| 2 ^ p) I3 ls' be' (hfrI.XCs hq) hPu hnow hnb hst3 h315 hl31 g352) (by omega) (by omega) (by omega) (Nat.le_of_ble_eq_true rfl) ?_
          rintro r h' ⟨rfl, I4, ls4, be4, rfl, f4, i4, j4, im4⟩
          have e46' : I3 46 = I 46 := hfrI.1 46 (by decide) (by decide) (by decide) (by decide) (by decide) (by decide)
          rw [eH3, e46'] at im4
          simp only [zW, z_wp1, z_ld, z_f0, z_f1, z_f2, z_f3, List.getElem?_cons_zero, List.getElem?_cons_succ, true_and, and_true, Int32.reduceOfInt, z_i10, z_i01, Int32.reduceLT, Int32.reduceLE, Int32.reduceAdd, Int32.reduceSub, z_set, z_set2, z_kil, List.set_cons_zero, List.set_cons_succ, List.take_succ_cons, List.take_zero, List.drop_succ_cons, List.drop_zero, List.reverse_cons, List.reverse_nil, List.nil_append, List.cons_append, List.getD_cons_succ, List.getD_cons_zero, List.getD_nil, List.length_cons, List.length_nil, List.map_cons, List.map_nil, List.sum_cons, List.sum_nil, Nat.reduceAdd, Nat.reduceLeDiff, Value.category, Option.toList, true_or, or_true, z_ua, ↓reduceIte, Nat.reduceEqDiff, eq_self, not_true_eq_false, not_false_eq_true, false_implies, true_implies, Classical.not_not, Nat.le_refl, Nat.zero_le]
          try dsimp only
          refine go I4 ls4 be4 _ _ (hfrI.tr (f4.le (by omega))) i4 ?_ j4 im4
          rcases im4.2 with ⟨z, _⟩ | ⟨z, _⟩
          · omega
          · omega
      refine zW_ok hj B4_48 48 _ _ _ _ _ b4_48 ?_
      simp only [B4_48, zW, z_wp1, z_ld, z_f0, z_f1, z_f2, z_f3, List.getElem?_cons_zero, List.getElem?_cons_succ, true_and, and_true, Int32.reduceOfInt, z_i10, z_i01, Int32.reduceLT, Int32.reduceLE, Int32.reduceAdd, Int32.reduceSub, z_set, z_set2, z_kil, List.set_cons_zero, List.set_cons_succ, List.take_succ_cons, List.take_zero, List.drop_succ_cons, List.drop_zero, List.reverse_cons, List.reverse_nil, List.nil_append, List.cons_append, List.getD_cons_succ, List.getD_cons_zero, List.getD_nil, List.length_cons, List.length_nil, List.map_cons, List.map_nil, List.sum_cons, List.sum_nil, Nat.reduceAdd, Nat.reduceLeDiff, Value.category, Option.toList, true_or, or_true, z_ua, ↓reduceIte, Nat.reduceEqDiff, eq_self, not_true_eq_false, not_false_eq_true, false_implies, true_implies, Classical.not_not, Nat.le_refl, Nat.zero_le, sK43 hS, sG43_13 hS, sK51 hS, sL51 hS, ed, vd, o1, r1, z_shl1 (show cn < 17 by omega), z1.2.2, eR, e0, v0, h0]
      try dsimp only
      refine ⟨fun _ => body _, fun hr0 => ?_⟩
      obtain ⟨r, hr32, hr⟩ := zb_ne0.mp hr0
      rw [rb, Bool.and_eq_true] at hr
      refine ⟨fun _ => body _, fun hz => skip2 _ _ (fun v hv => ?_)⟩
      obtain ⟨q, y1, y2, y3⟩ := c_no3 (r := r) (by omega) hv (by simpa using hr.1) (by simpa using hr.2)
      have h0' : (if 0 = d then nI p else I' 51 0) = nI (c_up w d p 0) := by rw [← h0, z_u_at]
      rw [h0'] at hz
      have hx32 : c_up w d p 0 < 32 := Nat.lt_of_lt_of_le h00 (by omega)
      have := (z_shr0 (R := R) (x := c_up w d p 0) hR hx32).mp hz q (Nat.le_of_lt y3)
      rw [rb, y2] at this
      simp at this
      exact absurd y1 (by omega)
    · obtain ⟨q, -, hq'⟩ := zb_ne0.mp h
      rw [z_xn, zb_and, zb_not, Bool.and_eq_true, e46] at hq'
      have := c_no2 (by omega) hv hq'.1
      rw [← htb] at this
      rw [this] at hq'
      simp at hq'
/-- search -/
theorem c4 (hS : SS K L G) : ∀ (k d : Nat), d + k = cn → ∀ (w : Nat → Nat) (t : Nat) (I : Nat → Nat → Int32) (ls : Nat) (be : Nat → Nat), XCs I as cn → c_Pd cn d w → t < 2 ^ cn → (∀ p, zb (nI t) p = c_u w d p) → c_st I as cn w d → I 43 15 = nI ls → ls < 2 ^ 31 → (∀ i, i < cn → I 52 i = nI (be i)) → z_Ctr l (3 + k) 4 [.ref 43, .int (nI d), .int (nI t)] (n, K, L, I, J, G) 0 0 (c4_post n K L I J G as cn w d ls be) := by
  intro k
  induction k with
  | zero =>
    intro d hk w t I ls be hq hP ht htb hst hls hl31 hbe
    obtain ⟨q1, q2, q3, q4, q5⟩ := id hq
    have e : d = cn := by omega
    subst e
    have nl : ¬ nI d < nI d := Int32.lt_irrefl
    refine z_ctr (by decide) (by decide +kernel) (Nat.le_of_ble_eq_true rfl) (by decide +kernel) (fun X hl hj hd hm hs hsc hQ => ?_)
    show zV X 0 [some (.ref 43), some (.int (nI d)), some (.int (nI t)), none, none, none] [] _ 0 0
    refine zW_ok hj B4_0 0 _ _ _ _ _ b4_0 ?_
    simp only [B4_0, zW, z_wp1, z_ld, z_f0, z_f1, z_f2, z_f3, List.getElem?_cons_zero, List.getElem?_cons_succ, true_and, and_true, Int32.reduceOfInt, z_i10, z_i01, Int32.reduceLT, Int32.reduceLE, Int32.reduceAdd, Int32.reduceSub, z_set, z_set2, z_kil, List.set_cons_zero, List.set_cons_succ, List.take_succ_cons, List.take_zero, List.drop_succ_cons, List.drop_zero, List.reverse_cons, List.reverse_nil, List.nil_append, List.cons_append, List.getD_cons_succ, List.getD_cons_zero, List.getD_nil, List.length_cons, List.length_nil, List.map_cons, List.map_nil, List.sum_cons, List.sum_nil, Nat.reduceAdd, Nat.reduceLeDiff, Value.category, Option.toList, true_or, or_true, z_ua, ↓reduceIte, Nat.reduceEqDiff, eq_self, not_true_eq_false, not_false_eq_true, false_implies, true_implies, Classical.not_not, Nat.le_refl, Nat.zero_le, sK43 hS, q1, nl]
    try dsimp only
    subst hl
    refine z_callQ (c5 hS hq hP hst hls hl31 hbe) (by omega) (by omega) (by omega) (Nat.le_of_ble_eq_true rfl) ?_
    intro r h' hp
    obtain ⟨rfl, I', ls', be', rfl, z⟩ := id hp
    simp only [zW, z_wp1, z_ld, z_f0, z_f1, z_f2, z_f3, List.getElem?_cons_zero, List.getElem?_cons_succ, true_and, and_true, Int32.reduceOfInt, z_i10, z_i01, Int32.reduceLT, Int32.reduceLE, Int32.reduceAdd, Int32.reduceSub, z_set, z_set2, z_kil, List.set_cons_zero, List.set_cons_succ, List.take_succ_cons, List.take_zero, List.drop_succ_cons, List.drop_zero, List.reverse_cons, List.reverse_nil, List.nil_append, List.cons_append, List.getD_cons_succ, List.getD_cons_zero, List.getD_nil, List.length_cons, List.length_nil, List.map_cons, List.map_nil, List.sum_cons, List.sum_nil, Nat.reduceAdd, Nat.reduceLeDiff, Value.category, Option.toList, true_or, or_true, z_ua, ↓reduceIte, Nat.reduceEqDiff, eq_self, not_true_eq_false, not_false_eq_true, false_implies, true_implies, Classical.not_not, Nat.le_refl, Nat.zero_le]
    try dsimp only
    exact hQ _ _ hp
  | succ k ih =>
    intro d hk w t I ls be hq hP ht htb hst hls hl31 hbe
    obtain ⟨q1, q2, q3, q4, q5⟩ := id hq
    have nl : nI d < nI cn := nI_lt (by omega) (by omega)
    refine z_ctr (by decide) (by decide +kernel) (Nat.le_of_ble_eq_true rfl) (by decide +kernel) (fun X hl hj hd hm hs hsc hQ => ?_)
    show zV X 0 [some (.ref 43), some (.int (nI d)), some (.int (nI t)), none, none, none] [] _ 0 0
    refine zW_ok hj B4_0 0 _ _ _ _ _ b4_0 ?_
    simp only [B4_0, zW, z_wp1, z_ld, z_f0, z_f1, z_f2, z_f3, List.getElem?_cons_zero, List.getElem?_cons_succ, true_and, and_true, Int32.reduceOfInt, z_i10, z_i01, Int32.reduceLT, Int32.reduceLE, Int32.reduceAdd, Int32.reduceSub, z_set, z_set2, z_kil, List.set_cons_zero, List.set_cons_succ, List.take_succ_cons, List.take_zero, List.drop_succ_cons, List.drop_zero, List.reverse_cons, List.reverse_nil, List.nil_append, List.cons_append, List.getD_cons_succ, List.getD_cons_zero, List.getD_nil, List.length_cons, List.length_nil, List.map_cons, List.map_nil, List.sum_cons, List.sum_nil, Nat.reduceAdd, Nat.reduceLeDiff, Value.category, Option.toList, true_or, or_true, z_ua, ↓reduceIte, Nat.reduceEqDiff, eq_self, not_true_eq_false, not_false_eq_true, false_implies, true_implies, Classical.not_not, Nat.le_refl, Nat.zero_le, sK43 hS, q1, nl]
    try dsimp only
    refine zW_ok hj B4_14 14 _ _ _ _ _ b4_14 ?_
    simp only [B4_14, zW, z_wp1, z_ld, z_f0, z_f1, z_f2, z_f3, List.getElem?_cons_zero, List.getElem?_cons_succ, true_and, and_true, Int32.reduceOfInt, z_i10, z_i01, Int32.reduceLT, Int32.reduceLE, Int32.reduceAdd, Int32.reduceSub, z_set, z_set2, z_kil, List.set_cons_zero, List.set_cons_succ, List.take_succ_cons, List.take_zero, List.drop_succ_cons, List.drop_zero, List.reverse_cons, List.reverse_nil, List.nil_append, List.cons_append, List.getD_cons_succ, List.getD_cons_zero, List.getD_nil, List.length_cons, List.length_nil, List.map_cons, List.map_nil, List.sum_cons, List.sum_nil, Nat.reduceAdd, Nat.reduceLeDiff, Value.category, Option.toList, true_or, or_true, z_ua, ↓reduceIte, Nat.reduceEqDiff, eq_self, not_true_eq_false, not_false_eq_true, false_implies, true_implies, Classical.not_not, Nat.le_refl, Nat.zero_le]
    try dsimp only
    refine (c4_loop hS hj hl hd hm hs hq hk hP ht htb hst (fun w' t' I' ls be a1 a2 a3 a4 a5 a6 a7 a8 => ih (d + 1) (by omega) w' t' I' ls be a1 a2 a3 a4 a5 a6 a7 a8) hQ cn 0 I ls be none none (by omega) (c_fr.rf I d) hls hl31 hbe (c_im.no (fun v hv => by have := hv.2; omega))).weak (by simp only [z_le, nI_0]; simp)
end CRS8
