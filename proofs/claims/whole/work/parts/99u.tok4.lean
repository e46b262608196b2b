/-! The class's tokens: cutText -/
theorem p_ed_sub {P : Int32 → Bool} {t : Nat → Int32} {N a : Nat} (h : a < N) (hp : P (t a) = true) : p_ed P t N (a + 1) = p_ed P t N a := (p_ed_s h hp).symm
section TOK4
variable {l : Launch} {n : Nat} {K L : Nat → Nat} {I : Nat → Nat → Int32} {J : Nat → Nat → Int64} {G : Nat → Nat → Value} {t : Nat → Int32} {N : Nat}
/-- the tokens cut so far -/
def x_ct (I : Nat → Nat → Int32) (t : Nat → Int32) (N la : Nat) : Prop := I 61 3 = nI la ∧ (∀ j, j < la → I 62 j = p_K t N j ∧ I 63 j = nI (p_P t N j)) ∧ (∀ j, j < la → (p_K t N j = 16 ∨ p_K t N j = 17) → I 64 j = p_A t N j) ∧ ∀ j, j < la → ¬ p_K t N j = 0
def x_cfr (I I' : Nat → Nat → Int32) : Prop := ∀ q, q ≠ 61 → q ≠ 62 → q ≠ 63 → q ≠ 64 → I' q = I q
theorem x_ct.tok {la : Nat} (h : x_ct I t N la) {k p a : Int32} (hk : k = p_K t N la) (hp : p = nI (p_P t N la)) (ha : (p_K t N la = 16 ∨ p_K t N la = 17) → a = p_A t N la) (h0 : ¬ p_K t N la = 0) : x_ct (x_tok I la k p a) t N (la + 1) ∧ x_cfr I (x_tok I la k p a) := by
  obtain ⟨h1, h2, h3, h4⟩ := h
  refine ⟨⟨by rw [x_tok, z_u_at, if_pos rfl], fun j hj => ?_, fun j hj hy => ?_, fun j hj => ?_⟩, fun q a b c d => by rw [x_tok, z_u_ne a, z_u_ne d, z_u_ne c, z_u_ne b]⟩
  · rw [x_tok, z_u_ne (show (62 : Nat) ≠ 61 by decide), z_u_ne (show (62 : Nat) ≠ 64 by decide), z_u_ne (show (62 : Nat) ≠ 63 by decide), z_u_at, z_u_ne (show (63 : Nat) ≠ 61 by decide), z_u_ne (show (63 : Nat) ≠ 64 by decide), z_u_at, z_u_ne (show (63 : Nat) ≠ 62 by decide)]
    by_cases z : j = la
    · subst z
      rw [if_pos rfl, if_pos rfl]
      exact ⟨hk, hp⟩
    · rw [if_neg z, if_neg z]
      exact h2 j (by omega)
  · rw [x_tok, z_u_ne (show (64 : Nat) ≠ 61 by decide), z_u_at, z_u_ne (show (64 : Nat) ≠ 63 by decide), z_u_ne (show (64 : Nat) ≠ 62 by decide)]
    by_cases z : j = la
    · subst z
      rw [if_pos rfl]
      exact ha hy
    · rw [if_neg z]
      exact h3 j (by omega) hy
  · by_cases z : j = la
    · subst z; exact h0
    · exact h4 j (by omega)
theorem c106_loop {X : zX} (hS : SS K L G) (hj : X.2.1 = 106) (hdp : X.2.2.1 = 6) (hm : X.2.2.2.1 = 0) (hs : X.2.2.2.2.1 = 0) (hN8 : N ≤ 800) (ht : I 59 = t) (hch : ∀ k, k < N → 0 ≤ t k ∧ t k ≤ 255) (kk : ∀ M I' x3 x4 x5, M ≤ N → x_ct I' t N M → x_cfr I I' → p_K t N M = 0 → p_P t N M = N → zV X 107 [some (.ref 61), some (.ref 59), some (.int (nI N)), x3, x4, x5] [] (n, K, L, I', J, G) 0 0) : ∀ (f a c la : Nat) (I' : Nat → Nat → Int32) (x5 : Option Value), N - a ≤ f → a ≤ N → c ≤ a → la ≤ a → p_ed p_W t N a = p_P t N la → x_ct I' t N la → x_cfr I I' → zV X 10 [some (.ref 61), some (.ref 59), some (.int (nI N)), some (.int (nI a)), some (.int (nI c)), x5] [] (n, K, L, I', J, G) 0 0 := by
  have fin : ∀ (c la : Nat) (I' : Nat → Nat → Int32) (x5 : Option Value), c ≤ N → la ≤ N → p_ed p_W t N N = p_P t N la → x_ct I' t N la → x_cfr I I' → zV X 10 [some (.ref 61), some (.ref 59), some (.int (nI N)), some (.int (nI N)), some (.int (nI c)), x5] [] (n, K, L, I', J, G) 0 0 := by
    intro c la I' x5 hc hl he hct hfr
    rw [p_ed_n (by omega)] at he
    have k0 : p_K t N la = 0 := by
      show p_kd t N (p_at t N la) = 0
      have : p_st t N (p_at t N la) = N := he.symm
      rw [p_kd, if_pos (by omega)]
    have le : nI N ≤ nI N := nI_le (Nat.le_refl _) (by omega)
    have k := kk la I' (some (.int (nI N))) (some (.int (nI c))) x5 hl hct hfr k0 he.symm
    by_cases h8 : (800 : Int32) ≤ nI c
    · refine zW_ok hj B106_10 10 _ _ _ _ _ b106_10 ?_
      simp only [B106_10, zW, z_wp1, z_ld, z_f0, z_f1, z_f2, z_f3, List.getElem?_cons_zero, List.getElem?_cons_succ, true_and, and_true, Int32.reduceOfInt, z_i10, z_i01, Int32.reduceLT, Int32.reduceLE, Int32.reduceAdd, Int32.reduceSub, z_set, z_set2, z_kil, List.set_cons_zero, List.set_cons_succ, List.take_succ_cons, List.take_zero, List.drop_succ_cons, List.drop_zero, List.reverse_cons, List.reverse_nil, List.nil_append, List.cons_append, List.getD_cons_succ, List.getD_cons_zero, List.getD_nil, List.length_cons, List.length_nil, List.map_cons, List.map_nil, List.sum_cons, List.sum_nil, Nat.reduceAdd, Nat.reduceLeDiff, Value.category, Option.toList, true_or, or_true, z_ua, ↓reduceIte, Nat.reduceEqDiff, eq_self, not_true_eq_false, not_false_eq_true, false_implies, true_implies, Classical.not_not, Nat.le_refl, Nat.zero_le, h8]
      try dsimp only
      exact k
    · refine zW_ok hj B106_10 10 _ _ _ _ _ b106_10 ?_
      simp only [B106_10, zW, z_wp1, z_ld, z_f0, z_f1, z_f2, z_f3, List.getElem?_cons_zero, List.getElem?_cons_succ, true_and, and_true, Int32.reduceOfInt, z_i10, z_i01, Int32.reduceLT, Int32.reduceLE, Int32.reduceAdd, Int32.reduceSub, z_set, z_set2, z_kil, List.set_cons_zero, List.set_cons_succ, List.take_succ_cons, List.take_zero, List.drop_succ_cons, List.drop_zero, List.reverse_cons, List.reverse_nil, List.nil_append, List.cons_append, List.getD_cons_succ, List.getD_cons_zero, List.getD_nil, List.length_cons, List.length_nil, List.map_cons, List.map_nil, List.sum_cons, List.sum_nil, Nat.reduceAdd, Nat.reduceLeDiff, Value.category, Option.toList, true_or, or_true, z_ua, ↓reduceIte, Nat.reduceEqDiff, eq_self, not_true_eq_false, not_false_eq_true, false_implies, true_implies, Classical.not_not, Nat.le_refl, Nat.zero_le, h8, le]
      try dsimp only
      exact k
  intro f
  induction f with
  | zero =>
    intro a c la I' x5 hf ha hc hl he hct hfr
    have e : a = N := by omega
    subst e
    exact fin c la I' x5 hc hl he hct hfr
  | succ f ih =>
    intro a c la I' x5 hf ha hc hl he hct hfr
    by_cases haN : a < N
    · have n8 : ¬ (800 : Int32) ≤ nI c := fun q => by
        have := (nI_leI (a := 800) (b := c) (by omega) (by omega)).mp q
        omega
      have nle : ¬ nI N ≤ nI a := nI_ge haN (by omega)
      have ea : (nI a).toNatClampNeg = a := nI_clamp (by omega)
      have va : vp_in (nI a) 800 := vp_in_nI (by omega) (by omega)
      have t' : I' 59 = t := (hfr 59 (by decide) (by decide) (by decide) (by decide)).trans ht
      have nx : ∀ (a' la' : Nat) (I2 : Nat → Nat → Int32), a < a' → a' ≤ N → la' ≤ la + 1 → p_ed p_W t N a' = p_P t N la' → x_ct I2 t N la' → x_cfr I I2 → zV X 98 [some (.ref 61), some (.ref 59), some (.int (nI N)), some (.int (nI a)), some (.int (nI c)), some (.int (nI a'))] [] (n, K, L, I2, J, G) 0 0 := by
        intro a' la' I2 g1 g2 g3 g4 g5 g6
        refine zW_ok hj B106_98 98 _ _ _ _ _ b106_98 ?_
        simp only [B106_98, zW, z_wp1, z_ld, z_f0, z_f1, z_f2, z_f3, List.getElem?_cons_zero, List.getElem?_cons_succ, true_and, and_true, Int32.reduceOfInt, z_i10, z_i01, Int32.reduceLT, Int32.reduceLE, Int32.reduceAdd, Int32.reduceSub, z_set, z_set2, z_kil, List.set_cons_zero, List.set_cons_succ, List.take_succ_cons, List.take_zero, List.drop_succ_cons, List.drop_zero, List.reverse_cons, List.reverse_nil, List.nil_append, List.cons_append, List.getD_cons_succ, List.getD_cons_zero, List.getD_nil, List.length_cons, List.length_nil, List.map_cons, List.map_nil, List.sum_cons, List.sum_nil, Nat.reduceAdd, Nat.reduceLeDiff, Value.category, Option.toList, true_or, or_true, z_ua, ↓reduceIte, Nat.reduceEqDiff, eq_self, not_true_eq_false, not_false_eq_true, false_implies, true_implies, Classical.not_not, Nat.le_refl, Nat.zero_le, nI_1]
        try dsimp only
        exact ih a' (c + 1) la' I2 _ (by omega) g2 (by omega) (by omega) g4 g5 g6
      by_cases hW : p_W (t a) = true
      · -- white
        have hw : t a = 32 ∨ t a = 10 := by unfold p_W at hW; rw [decide_eq_true_eq] at hW; exact hW
        have nL : ¬ p_L (I' 59 a) = true := by rw [t']; rcases hw with z | z <;> (rw [z]; decide)
        have nD : ¬ p_D (I' 59 a) = true := by rw [t']; rcases hw with z | z <;> (rw [z]; decide)
        have go := nx (a + 1) la I' (by omega) (by omega) (by omega) (by rw [p_ed_sub haN hW]; exact he) hct hfr
        refine zW_ok hj B106_10 10 _ _ _ _ _ b106_10 ?_
        simp only [B106_10, zW, z_wp1, z_ld, z_f0, z_f1, z_f2, z_f3, List.getElem?_cons_zero, List.getElem?_cons_succ, true_and, and_true, Int32.reduceOfInt, z_i10, z_i01, Int32.reduceLT, Int32.reduceLE, Int32.reduceAdd, Int32.reduceSub, z_set, z_set2, z_kil, List.set_cons_zero, List.set_cons_succ, List.take_succ_cons, List.take_zero, List.drop_succ_cons, List.drop_zero, List.reverse_cons, List.reverse_nil, List.nil_append, List.cons_append, List.getD_cons_succ, List.getD_cons_zero, List.getD_nil, List.length_cons, List.length_nil, List.map_cons, List.map_nil, List.sum_cons, List.sum_nil, Nat.reduceAdd, Nat.reduceLeDiff, Value.category, Option.toList, true_or, or_true, z_ua, ↓reduceIte, Nat.reduceEqDiff, eq_self, not_true_eq_false, not_false_eq_true, false_implies, true_implies, Classical.not_not, Nat.le_refl, Nat.zero_le, n8, nle, sK59 hS, sL59 hS, va]
        try dsimp only
        rw [nI_1 a, ea]
        refine z_callD (c112 (h := (n, K, L, I', J, G)) (I' 59 a)) (by omega) (by omega) (by omega) (Nat.le_of_ble_eq_true rfl) ?_
        try simp only [zW, z_wp1, z_ld, z_f0, z_f1, z_f2, z_f3, List.getElem?_cons_zero, List.getElem?_cons_succ, true_and, and_true, Int32.reduceOfInt, z_i10, z_i01, Int32.reduceLT, Int32.reduceLE, Int32.reduceAdd, Int32.reduceSub, z_set, z_set2, z_kil, List.set_cons_zero, List.set_cons_succ, List.take_succ_cons, List.take_zero, List.drop_succ_cons, List.drop_zero, List.reverse_cons, List.reverse_nil, List.nil_append, List.cons_append, List.getD_cons_succ, List.getD_cons_zero, List.getD_nil, List.length_cons, List.length_nil, List.map_cons, List.map_nil, List.sum_cons, List.sum_nil, Nat.reduceAdd, Nat.reduceLeDiff, Value.category, Option.toList, true_or, or_true, z_ua, ↓reduceIte, Nat.reduceEqDiff, eq_self, not_true_eq_false, not_false_eq_true, false_implies, true_implies, Classical.not_not, Nat.le_refl, Nat.zero_le, nL]
        try dsimp only
        refine ⟨fun _ => ?_, fun q => absurd rfl q⟩
        refine zW_ok hj B106_49 49 _ _ _ _ _ b106_49 ?_
        simp only [B106_49, zW, z_wp1, z_ld, z_f0, z_f1, z_f2, z_f3, List.getElem?_cons_zero, List.getElem?_cons_succ, true_and, and_true, Int32.reduceOfInt, z_i10, z_i01, Int32.reduceLT, Int32.reduceLE, Int32.reduceAdd, Int32.reduceSub, z_set, z_set2, z_kil, List.set_cons_zero, List.set_cons_succ, List.take_succ_cons, List.take_zero, List.drop_succ_cons, List.drop_zero, List.reverse_cons, List.reverse_nil, List.nil_append, List.cons_append, List.getD_cons_succ, List.getD_cons_zero, List.getD_nil, List.length_cons, List.length_nil, List.map_cons, List.map_nil, List.sum_cons, List.sum_nil, Nat.reduceAdd, Nat.reduceLeDiff, Value.category, Option.toList, true_or, or_true, z_ua, ↓reduceIte, Nat.reduceEqDiff, eq_self, not_true_eq_false, not_false_eq_true, false_implies, true_implies, Classical.not_not, Nat.le_refl, Nat.zero_le, sK59 hS, sL59 hS, va]
        try dsimp only
        rw [ea]
        refine z_callD (c113 (h := (n, K, L, I', J, G)) (I' 59 a)) (by omega) (by omega) (by omega) (Nat.le_of_ble_eq_true rfl) ?_
        try simp only [zW, z_wp1, z_ld, z_f0, z_f1, z_f2, z_f3, List.getElem?_cons_zero, List.getElem?_cons_succ, true_and, and_true, Int32.reduceOfInt, z_i10, z_i01, Int32.reduceLT, Int32.reduceLE, Int32.reduceAdd, Int32.reduceSub, z_set, z_set2, z_kil, List.set_cons_zero, List.set_cons_succ, List.take_succ_cons, List.take_zero, List.drop_succ_cons, List.drop_zero, List.reverse_cons, List.reverse_nil, List.nil_append, List.cons_append, List.getD_cons_succ, List.getD_cons_zero, List.getD_nil, List.length_cons, List.length_nil, List.map_cons, List.map_nil, List.sum_cons, List.sum_nil, Nat.reduceAdd, Nat.reduceLeDiff, Value.category, Option.toList, true_or, or_true, z_ua, ↓reduceIte, Nat.reduceEqDiff, eq_self, not_true_eq_false, not_false_eq_true, false_implies, true_implies, Classical.not_not, Nat.le_refl, Nat.zero_le, nD]
        try dsimp only
        refine ⟨fun _ => ?_, fun q => absurd rfl q⟩
        rw [← t'] at hw
        refine zW_ok hj B106_70 70 _ _ _ _ _ b106_70 ?_
        simp only [B106_70, zW, z_wp1, z_ld, z_f0, z_f1, z_f2, z_f3, List.getElem?_cons_zero, List.getElem?_cons_succ, true_and, and_true, Int32.reduceOfInt, z_i10, z_i01, Int32.reduceLT, Int32.reduceLE, Int32.reduceAdd, Int32.reduceSub, z_set, z_set2, z_kil, List.set_cons_zero, List.set_cons_succ, List.take_succ_cons, List.take_zero, List.drop_succ_cons, List.drop_zero, List.reverse_cons, List.reverse_nil, List.nil_append, List.cons_append, List.getD_cons_succ, List.getD_cons_zero, List.getD_nil, List.length_cons, List.length_nil, List.map_cons, List.map_nil, List.sum_cons, List.sum_nil, Nat.reduceAdd, Nat.reduceLeDiff, Value.category, Option.toList, true_or, or_true, z_ua, ↓reduceIte, Nat.reduceEqDiff, eq_self, not_true_eq_false, not_false_eq_true, false_implies, true_implies, Classical.not_not, Nat.le_refl, Nat.zero_le, sK59 hS, sL59 hS, va]
        try dsimp only
        rw [ea]
        refine ⟨fun _ => go, fun q1 => ⟨fun _ => go, fun q2 => absurd hw (fun z => z.elim q1 q2)⟩⟩
      · have hst : p_P t N la = a := by rw [← he, p_ed_n (fun q => hW q.2)]
        have hst' : p_st t N (p_at t N la) = a := hst
        have hat : p_at t N (la + 1) = p_nx t N (p_at t N la) := rfl
        by_cases hL : p_L (t a) = true
        · have ek : p_K t N la = p_wk (p_w t a (p_ed p_L t N (a + 1))) := by
            show p_kd t N (p_at t N la) = _
            rw [p_kd, hst', if_neg (fun q => q haN), if_pos hL]
          have eA : p_A t N la = p_w t a (p_ed p_L t N (a + 1)) := by
            show p_am t N (p_at t N la) = _
            rw [p_am, hst', if_pos hL]
          have en : p_at t N (la + 1) = p_ed p_L t N (a + 1) := by rw [hat, p_nx, hst', if_neg (fun q => q haN), if_pos hL]
          have hee : p_ed p_L t N a = p_ed p_L t N (a + 1) := p_ed_s haN hL
          obtain ⟨q1, q2, q3⟩ := p_ed_in (P := p_L) (t := t) (N := N) (a := a + 1)
          have q2' := q2 (by omega)
          have k0 : ¬ p_K t N la = 0 := by
            rw [ek]
            rcases p_w_in t a (p_ed p_L t N (a + 1)) with z | ⟨j, hj', z⟩
            · rw [z]; decide
            · rw [z]
              rcases p_wk_ok j hj' with ⟨_, y, _⟩ | ⟨y, _⟩
              · rw [y]; decide
              · rcases y with y | y | y | y <;> (rw [y]; decide)
          have cw := c109 (l := X.1) (n := n) (I := I') (J := J) (la := la) hS hct.1 (by omega) hN8 haN
          rw [t', hee] at cw
          obtain ⟨g1, g2⟩ := hct.tok (k := p_wk (p_w t a (p_ed p_L t N (a + 1)))) (p := nI a) (a := if p_wk (p_w t a (p_ed p_L t N (a + 1))) = 16 then p_w t a (p_ed p_L t N (a + 1)) else 0) ek.symm (by rw [hst]) (fun hy => by
            rw [eA]
            rcases hy with z | z
            · rw [ek] at z; rw [if_pos z]
            · exfalso
              rw [ek] at z
              rcases p_w_in t a (p_ed p_L t N (a + 1)) with y | ⟨j, hj', y⟩
              · rw [y] at z; exact absurd z (by decide)
              · rw [y] at z
                rcases p_wk_ok j hj' with ⟨_, x, _⟩ | ⟨x, _⟩
                · rw [x] at z; exact absurd z (by decide)
                · rcases x with x | x | x | x <;> (rw [x] at z; exact absurd z (by decide))) k0
          have hL' : p_L (I' 59 a) = true := by rw [t']; exact hL
          have go := nx (p_ed p_L t N (a + 1)) (la + 1) _ (by omega) q2' (by omega) (by show _ = p_st t N (p_at t N (la + 1)); rw [en]; rfl) g1 (fun q h1 h2 h3 h4 => (g2 q h1 h2 h3 h4).trans (hfr q h1 h2 h3 h4))
          refine zW_ok hj B106_10 10 _ _ _ _ _ b106_10 ?_
          simp only [B106_10, zW, z_wp1, z_ld, z_f0, z_f1, z_f2, z_f3, List.getElem?_cons_zero, List.getElem?_cons_succ, true_and, and_true, Int32.reduceOfInt, z_i10, z_i01, Int32.reduceLT, Int32.reduceLE, Int32.reduceAdd, Int32.reduceSub, z_set, z_set2, z_kil, List.set_cons_zero, List.set_cons_succ, List.take_succ_cons, List.take_zero, List.drop_succ_cons, List.drop_zero, List.reverse_cons, List.reverse_nil, List.nil_append, List.cons_append, List.getD_cons_succ, List.getD_cons_zero, List.getD_nil, List.length_cons, List.length_nil, List.map_cons, List.map_nil, List.sum_cons, List.sum_nil, Nat.reduceAdd, Nat.reduceLeDiff, Value.category, Option.toList, true_or, or_true, z_ua, ↓reduceIte, Nat.reduceEqDiff, eq_self, not_true_eq_false, not_false_eq_true, false_implies, true_implies, Classical.not_not, Nat.le_refl, Nat.zero_le, n8, nle, sK59 hS, sL59 hS, va]
          try dsimp only
          rw [nI_1 a, ea]
          refine z_callD (c112 (h := (n, K, L, I', J, G)) (I' 59 a)) (by omega) (by omega) (by omega) (Nat.le_of_ble_eq_true rfl) ?_
          try simp only [zW, z_wp1, z_ld, z_f0, z_f1, z_f2, z_f3, List.getElem?_cons_zero, List.getElem?_cons_succ, true_and, and_true, Int32.reduceOfInt, z_i10, z_i01, Int32.reduceLT, Int32.reduceLE, Int32.reduceAdd, Int32.reduceSub, z_set, z_set2, z_kil, List.set_cons_zero, List.set_cons_succ, List.take_succ_cons, List.take_zero, List.drop_succ_cons, List.drop_zero, List.reverse_cons, List.reverse_nil, List.nil_append, List.cons_append, List.getD_cons_succ, List.getD_cons_zero, List.getD_nil, List.length_cons, List.length_nil, List.map_cons, List.map_nil, List.sum_cons, List.sum_nil, Nat.reduceAdd, Nat.reduceLeDiff, Value.category, Option.toList, true_or, or_true, z_ua, ↓reduceIte, Nat.reduceEqDiff, eq_self, not_true_eq_false, not_false_eq_true, false_implies, true_implies, Classical.not_not, Nat.le_refl, Nat.zero_le, hL', sK61 hS]
          try dsimp only
          refine z_callD (cw) (by omega) (by omega) (by omega) (Nat.le_of_ble_eq_true rfl) ?_
          try simp only [zW, z_wp1, z_ld, z_f0, z_f1, z_f2, z_f3, List.getElem?_cons_zero, List.getElem?_cons_succ, true_and, and_true, Int32.reduceOfInt, z_i10, z_i01, Int32.reduceLT, Int32.reduceLE, Int32.reduceAdd, Int32.reduceSub, z_set, z_set2, z_kil, List.set_cons_zero, List.set_cons_succ, List.take_succ_cons, List.take_zero, List.drop_succ_cons, List.drop_zero, List.reverse_cons, List.reverse_nil, List.nil_append, List.cons_append, List.getD_cons_succ, List.getD_cons_zero, List.getD_nil, List.length_cons, List.length_nil, List.map_cons, List.map_nil, List.sum_cons, List.sum_nil, Nat.reduceAdd, Nat.reduceLeDiff, Value.category, Option.toList, true_or, or_true, z_ua, ↓reduceIte, Nat.reduceEqDiff, eq_self, not_true_eq_false, not_false_eq_true, false_implies, true_implies, Classical.not_not, Nat.le_refl, Nat.zero_le]
          try dsimp only
          exact go
        · have nL : ¬ p_L (I' 59 a) = true := by rw [t']; exact hL
          by_cases hD : p_D (t a) = true
          · have ek : p_K t N la = if p_ed p_D t N (a + 1) - a < 5 then 17 else 1 := by
              show p_kd t N (p_at t N la) = _
              rw [p_kd, hst', if_neg (fun q => q haN), if_neg hL, if_pos hD]
            have eA : p_A t N la = p_nu t a (p_ed p_D t N (a + 1) - a) := by
              show p_am t N (p_at t N la) = _
              rw [p_am, hst', if_neg hL]
            have en : p_at t N (la + 1) = p_ed p_D t N (a + 1) := by rw [hat, p_nx, hst', if_neg (fun q => q haN), if_neg hL, if_pos hD]
            have hee : p_ed p_D t N a = p_ed p_D t N (a + 1) := p_ed_s haN hD
            obtain ⟨q1, q2, q3⟩ := p_ed_in (P := p_D) (t := t) (N := N) (a := a + 1)
            have q2' := q2 (by omega)
            have cn := c110 (l := X.1) (n := n) (I := I') (J := J) (la := la) hS hct.1 (by omega) hN8 (w := a) (by omega)
            rw [t', hee] at cn
            obtain ⟨g1, g2⟩ := hct.tok (k := if p_ed p_D t N (a + 1) - a < 5 then 17 else 1) (p := nI a) (a := p_nu t a (min 4 (p_ed p_D t N (a + 1) - a))) ek.symm (by rw [hst]) (fun hy => by
              rw [eA]
              by_cases h5 : p_ed p_D t N (a + 1) - a < 5
              · rw [show min 4 (p_ed p_D t N (a + 1) - a) = p_ed p_D t N (a + 1) - a by omega]
              · rw [ek, if_neg h5] at hy
                rcases hy with z | z <;> exact absurd z (by decide)) (by rw [ek]; split <;> decide)
            have hD' : p_D (I' 59 a) = true := by rw [t']; exact hD
            have go := nx (p_ed p_D t N (a + 1)) (la + 1) _ (by omega) q2' (by omega) (by show _ = p_st t N (p_at t N (la + 1)); rw [en]; rfl) g1 (fun q h1 h2 h3 h4 => (g2 q h1 h2 h3 h4).trans (hfr q h1 h2 h3 h4))
            refine zW_ok hj B106_10 10 _ _ _ _ _ b106_10 ?_
            simp only [B106_10, zW, z_wp1, z_ld, z_f0, z_f1, z_f2, z_f3, List.getElem?_cons_zero, List.getElem?_cons_succ, true_and, and_true, Int32.reduceOfInt, z_i10, z_i01, Int32.reduceLT, Int32.reduceLE, Int32.reduceAdd, Int32.reduceSub, z_set, z_set2, z_kil, List.set_cons_zero, List.set_cons_succ, List.take_succ_cons, List.take_zero, List.drop_succ_cons, List.drop_zero, List.reverse_cons, List.reverse_nil, List.nil_append, List.cons_append, List.getD_cons_succ, List.getD_cons_zero, List.getD_nil, List.length_cons, List.length_nil, List.map_cons, List.map_nil, List.sum_cons, List.sum_nil, Nat.reduceAdd, Nat.reduceLeDiff, Value.category, Option.toList, true_or, or_true, z_ua, ↓reduceIte, Nat.reduceEqDiff, eq_self, not_true_eq_false, not_false_eq_true, false_implies, true_implies, Classical.not_not, Nat.le_refl, Nat.zero_le, n8, nle, sK59 hS, sL59 hS, va]
            try dsimp only
            rw [nI_1 a, ea]
            refine z_callD (c112 (h := (n, K, L, I', J, G)) (I' 59 a)) (by omega) (by omega) (by omega) (Nat.le_of_ble_eq_true rfl) ?_
            try simp only [zW, z_wp1, z_ld, z_f0, z_f1, z_f2, z_f3, List.getElem?_cons_zero, List.getElem?_cons_succ, true_and, and_true, Int32.reduceOfInt, z_i10, z_i01, Int32.reduceLT, Int32.reduceLE, Int32.reduceAdd, Int32.reduceSub, z_set, z_set2, z_kil, List.set_cons_zero, List.set_cons_succ, List.take_succ_cons, List.take_zero, List.drop_succ_cons, List.drop_zero, List.reverse_cons, List.reverse_nil, List.nil_append, List.cons_append, List.getD_cons_succ, List.getD_cons_zero, List.getD_nil, List.length_cons, List.length_nil, List.map_cons, List.map_nil, List.sum_cons, List.sum_nil, Nat.reduceAdd, Nat.reduceLeDiff, Value.category, Option.toList, true_or, or_true, z_ua, ↓reduceIte, Nat.reduceEqDiff, eq_self, not_true_eq_false, not_false_eq_true, false_implies, true_implies, Classical.not_not, Nat.le_refl, Nat.zero_le, nL]
            try dsimp only
            refine ⟨fun _ => ?_, fun q => absurd rfl q⟩
            refine zW_ok hj B106_49 49 _ _ _ _ _ b106_49 ?_
            simp only [B106_49, zW, z_wp1, z_ld, z_f0, z_f1, z_f2, z_f3, List.getElem?_cons_zero, List.getElem?_cons_succ, true_and, and_true, Int32.reduceOfInt, z_i10, z_i01, Int32.reduceLT, Int32.reduceLE, Int32.reduceAdd, Int32.reduceSub, z_set, z_set2, z_kil, List.set_cons_zero, List.set_cons_succ, List.take_succ_cons, List.take_zero, List.drop_succ_cons, List.drop_zero, List.reverse_cons, List.reverse_nil, List.nil_append, List.cons_append, List.getD_cons_succ, List.getD_cons_zero, List.getD_nil, List.length_cons, List.length_nil, List.map_cons, List.map_nil, List.sum_cons, List.sum_nil, Nat.reduceAdd, Nat.reduceLeDiff, Value.category, Option.toList, true_or, or_true, z_ua, ↓reduceIte, Nat.reduceEqDiff, eq_self, not_true_eq_false, not_false_eq_true, false_implies, true_implies, Classical.not_not, Nat.le_refl, Nat.zero_le, sK59 hS, sL59 hS, va]
            try dsimp only
            rw [ea]
            refine z_callD (c113 (h := (n, K, L, I', J, G)) (I' 59 a)) (by omega) (by omega) (by omega) (Nat.le_of_ble_eq_true rfl) ?_
            try simp only [zW, z_wp1, z_ld, z_f0, z_f1, z_f2, z_f3, List.getElem?_cons_zero, List.getElem?_cons_succ, true_and, and_true, Int32.reduceOfInt, z_i10, z_i01, Int32.reduceLT, Int32.reduceLE, Int32.reduceAdd, Int32.reduceSub, z_set, z_set2, z_kil, List.set_cons_zero, List.set_cons_succ, List.take_succ_cons, List.take_zero, List.drop_succ_cons, List.drop_zero, List.reverse_cons, List.reverse_nil, List.nil_append, List.cons_append, List.getD_cons_succ, List.getD_cons_zero, List.getD_nil, List.length_cons, List.length_nil, List.map_cons, List.map_nil, List.sum_cons, List.sum_nil, Nat.reduceAdd, Nat.reduceLeDiff, Value.category, Option.toList, true_or, or_true, z_ua, ↓reduceIte, Nat.reduceEqDiff, eq_self, not_true_eq_false, not_false_eq_true, false_implies, true_implies, Classical.not_not, Nat.le_refl, Nat.zero_le, hD', sK61 hS]
            try dsimp only
            refine z_callD (cn) (by omega) (by omega) (by omega) (Nat.le_of_ble_eq_true rfl) ?_
            try simp only [zW, z_wp1, z_ld, z_f0, z_f1, z_f2, z_f3, List.getElem?_cons_zero, List.getElem?_cons_succ, true_and, and_true, Int32.reduceOfInt, z_i10, z_i01, Int32.reduceLT, Int32.reduceLE, Int32.reduceAdd, Int32.reduceSub, z_set, z_set2, z_kil, List.set_cons_zero, List.set_cons_succ, List.take_succ_cons, List.take_zero, List.drop_succ_cons, List.drop_zero, List.reverse_cons, List.reverse_nil, List.nil_append, List.cons_append, List.getD_cons_succ, List.getD_cons_zero, List.getD_nil, List.length_cons, List.length_nil, List.map_cons, List.map_nil, List.sum_cons, List.sum_nil, Nat.reduceAdd, Nat.reduceLeDiff, Value.category, Option.toList, true_or, or_true, z_ua, ↓reduceIte, Nat.reduceEqDiff, eq_self, not_true_eq_false, not_false_eq_true, false_implies, true_implies, Classical.not_not, Nat.le_refl, Nat.zero_le]
            try dsimp only
            exact go
          · have nD : ¬ p_D (I' 59 a) = true := by rw [t']; exact hD
            have ek : p_K t N la = p_sg (t a) := by
              show p_kd t N (p_at t N la) = _
              rw [p_kd, hst', if_neg (fun q => q haN), if_neg hL, if_neg hD]
            have en : p_at t N (la + 1) = a + 1 := by rw [hat, p_nx, hst', if_neg (fun q => q haN), if_neg hL, if_neg hD]
            have nw : ¬ (I' 59 a = 32) ∧ ¬ (I' 59 a = 10) := by
              rw [t']
              exact ⟨fun z => hW (by rw [z]; decide), fun z => hW (by rw [z]; decide)⟩
            have nw1 : ¬ I' 59 (nI a).toNatClampNeg = 32 := by rw [ea]; exact nw.1
            have nw2 : ¬ I' 59 (nI a).toNatClampNeg = 10 := by rw [ea]; exact nw.2
            obtain ⟨m, hm', em⟩ := p_rng (hch a haN)
            have c4 := c114 (l := X.1) (h := (n, K, L, I', J, G)) hm'
            rw [← em, ← t'] at c4
            have hsg : ∀ v : Int32, p_sg (t a) = v → ¬ (v = 16 ∨ v = 17) ∧ ¬ v = 0 := by
              intro v hv
              rcases p_sg_rg (t a) with q | ⟨-, q⟩ | ⟨-, q⟩ | ⟨-, q⟩ | ⟨-, q⟩ | ⟨-, q⟩ | ⟨-, q⟩ | ⟨-, q⟩ | ⟨-, q⟩ | ⟨-, q⟩ | ⟨-, q⟩ <;> (rw [q] at hv; subst hv; decide)
            obtain ⟨g1, g2⟩ := hct.tok (k := p_sg (I' 59 a)) (p := nI a) (a := 0) (by rw [ek, t']) (by rw [hst]) (fun hy => absurd (ek ▸ hy) (hsg _ rfl).1) (by rw [ek]; exact (hsg _ rfl).2)
            have go := nx (a + 1) (la + 1) _ (by omega) (by omega) (by omega) (by show _ = p_st t N (p_at t N (la + 1)); rw [en]; rfl) g1 (fun q h1 h2 h3 h4 => (g2 q h1 h2 h3 h4).trans (hfr q h1 h2 h3 h4))
            refine zW_ok hj B106_10 10 _ _ _ _ _ b106_10 ?_
            simp only [B106_10, zW, z_wp1, z_ld, z_f0, z_f1, z_f2, z_f3, List.getElem?_cons_zero, List.getElem?_cons_succ, true_and, and_true, Int32.reduceOfInt, z_i10, z_i01, Int32.reduceLT, Int32.reduceLE, Int32.reduceAdd, Int32.reduceSub, z_set, z_set2, z_kil, List.set_cons_zero, List.set_cons_succ, List.take_succ_cons, List.take_zero, List.drop_succ_cons, List.drop_zero, List.reverse_cons, List.reverse_nil, List.nil_append, List.cons_append, List.getD_cons_succ, List.getD_cons_zero, List.getD_nil, List.length_cons, List.length_nil, List.map_cons, List.map_nil, List.sum_cons, List.sum_nil, Nat.reduceAdd, Nat.reduceLeDiff, Value.category, Option.toList, true_or, or_true, z_ua, ↓reduceIte, Nat.reduceEqDiff, eq_self, not_true_eq_false, not_false_eq_true, false_implies, true_implies, Classical.not_not, Nat.le_refl, Nat.zero_le, n8, nle, sK59 hS, sL59 hS, va]
            try dsimp only
            rw [nI_1 a, ea]
            refine z_callD (c112 (h := (n, K, L, I', J, G)) (I' 59 a)) (by omega) (by omega) (by omega) (Nat.le_of_ble_eq_true rfl) ?_
            try simp only [zW, z_wp1, z_ld, z_f0, z_f1, z_f2, z_f3, List.getElem?_cons_zero, List.getElem?_cons_succ, true_and, and_true, Int32.reduceOfInt, z_i10, z_i01, Int32.reduceLT, Int32.reduceLE, Int32.reduceAdd, Int32.reduceSub, z_set, z_set2, z_kil, List.set_cons_zero, List.set_cons_succ, List.take_succ_cons, List.take_zero, List.drop_succ_cons, List.drop_zero, List.reverse_cons, List.reverse_nil, List.nil_append, List.cons_append, List.getD_cons_succ, List.getD_cons_zero, List.getD_nil, List.length_cons, List.length_nil, List.map_cons, List.map_nil, List.sum_cons, List.sum_nil, Nat.reduceAdd, Nat.reduceLeDiff, Value.category, Option.toList, true_or, or_true, z_ua, ↓reduceIte, Nat.reduceEqDiff, eq_self, not_true_eq_false, not_false_eq_true, false_implies, true_implies, Classical.not_not, Nat.le_refl, Nat.zero_le, nL]
            try dsimp only
            refine ⟨fun _ => ?_, fun q => absurd rfl q⟩
            refine zW_ok hj B106_49 49 _ _ _ _ _ b106_49 ?_
            simp only [B106_49, zW, z_wp1, z_ld, z_f0, z_f1, z_f2, z_f3, List.getElem?_cons_zero, List.getElem?_cons_succ, true_and, and_true, Int32.reduceOfInt, z_i10, z_i01, Int32.reduceLT, Int32.reduceLE, Int32.reduceAdd, Int32.reduceSub, z_set, z_set2, z_kil, List.set_cons_zero, List.set_cons_succ, List.take_succ_cons, List.take_zero, List.drop_succ_cons, List.drop_zero, List.reverse_cons, List.reverse_nil, List.nil_append, List.cons_append, List.getD_cons_succ, List.getD_cons_zero, List.getD_nil, List.length_cons, List.length_nil, List.map_cons, List.map_nil, List.sum_cons, List.sum_nil, Nat.reduceAdd, Nat.reduceLeDiff, Value.category, Option.toList, true_or, or_true, z_ua, ↓reduceIte, Nat.reduceEqDiff, eq_self, not_true_eq_false, not_false_eq_true, false_implies, true_implies, Classical.not_not, Nat.le_refl, Nat.zero_le, sK59 hS, sL59 hS, va]
            try dsimp only
            rw [ea]
            refine z_callD (c113 (h := (n, K, L, I', J, G)) (I' 59 a)) (by omega) (by omega) (by omega) (Nat.le_of_ble_eq_true rfl) ?_
            try simp only [zW, z_wp1, z_ld, z_f0, z_f1, z_f2, z_f3, List.getElem?_cons_zero, List.getElem?_cons_succ, true_and, and_true, Int32.reduceOfInt, z_i10, z_i01, Int32.reduceLT, Int32.reduceLE, Int32.reduceAdd, Int32.reduceSub, z_set, z_set2, z_kil, List.set_cons_zero, List.set_cons_succ, List.take_succ_cons, List.take_zero, List.drop_succ_cons, List.drop_zero, List.reverse_cons, List.reverse_nil, List.nil_append, List.cons_append, List.getD_cons_succ, List.getD_cons_zero, List.getD_nil, List.length_cons, List.length_nil, List.map_cons, List.map_nil, List.sum_cons, List.sum_nil, Nat.reduceAdd, Nat.reduceLeDiff, Value.category, Option.toList, true_or, or_true, z_ua, ↓reduceIte, Nat.reduceEqDiff, eq_self, not_true_eq_false, not_false_eq_true, false_implies, true_implies, Classical.not_not, Nat.le_refl, Nat.zero_le, nD]
            try dsimp only
            refine ⟨fun _ => ?_, fun q => absurd rfl q⟩
            refine zW_ok hj B106_70 70 _ _ _ _ _ b106_70 ?_
            simp only [B106_70, zW, z_wp1, z_ld, z_f0, z_f1, z_f2, z_f3, List.getElem?_cons_zero, List.getElem?_cons_succ, true_and, and_true, Int32.reduceOfInt, z_i10, z_i01, Int32.reduceLT, Int32.reduceLE, Int32.reduceAdd, Int32.reduceSub, z_set, z_set2, z_kil, List.set_cons_zero, List.set_cons_succ, List.take_succ_cons, List.take_zero, List.drop_succ_cons, List.drop_zero, List.reverse_cons, List.reverse_nil, List.nil_append, List.cons_append, List.getD_cons_succ, List.getD_cons_zero, List.getD_nil, List.length_cons, List.length_nil, List.map_cons, List.map_nil, List.sum_cons, List.sum_nil, Nat.reduceAdd, Nat.reduceLeDiff, Value.category, Option.toList, true_or, or_true, z_ua, ↓reduceIte, Nat.reduceEqDiff, eq_self, not_true_eq_false, not_false_eq_true, false_implies, true_implies, Classical.not_not, Nat.le_refl, Nat.zero_le, sK59 hS, sL59 hS, va, nw1, nw2]
            try dsimp only
            rw [ea]
            refine z_callD (c4) (by omega) (by omega) (by omega) (Nat.le_of_ble_eq_true rfl) ?_
            try simp only [zW, z_wp1, z_ld, z_f0, z_f1, z_f2, z_f3, List.getElem?_cons_zero, List.getElem?_cons_succ, true_and, and_true, Int32.reduceOfInt, z_i10, z_i01, Int32.reduceLT, Int32.reduceLE, Int32.reduceAdd, Int32.reduceSub, z_set, z_set2, z_kil, List.set_cons_zero, List.set_cons_succ, List.take_succ_cons, List.take_zero, List.drop_succ_cons, List.drop_zero, List.reverse_cons, List.reverse_nil, List.nil_append, List.cons_append, List.getD_cons_succ, List.getD_cons_zero, List.getD_nil, List.length_cons, List.length_nil, List.map_cons, List.map_nil, List.sum_cons, List.sum_nil, Nat.reduceAdd, Nat.reduceLeDiff, Value.category, Option.toList, true_or, or_true, z_ua, ↓reduceIte, Nat.reduceEqDiff, eq_self, not_true_eq_false, not_false_eq_true, false_implies, true_implies, Classical.not_not, Nat.le_refl, Nat.zero_le, sK61 hS]
            try dsimp only
            refine z_callD (c108 (I := I') (J := J) hS hct.1 (by omega) (p_sg (I' 59 a)) (nI a) 0) (by omega) (by omega) (by omega) (Nat.le_of_ble_eq_true rfl) ?_
            try simp only [zW, z_wp1, z_ld, z_f0, z_f1, z_f2, z_f3, List.getElem?_cons_zero, List.getElem?_cons_succ, true_and, and_true, Int32.reduceOfInt, z_i10, z_i01, Int32.reduceLT, Int32.reduceLE, Int32.reduceAdd, Int32.reduceSub, z_set, z_set2, z_kil, List.set_cons_zero, List.set_cons_succ, List.take_succ_cons, List.take_zero, List.drop_succ_cons, List.drop_zero, List.reverse_cons, List.reverse_nil, List.nil_append, List.cons_append, List.getD_cons_succ, List.getD_cons_zero, List.getD_nil, List.length_cons, List.length_nil, List.map_cons, List.map_nil, List.sum_cons, List.sum_nil, Nat.reduceAdd, Nat.reduceLeDiff, Value.category, Option.toList, true_or, or_true, z_ua, ↓reduceIte, Nat.reduceEqDiff, eq_self, not_true_eq_false, not_false_eq_true, false_implies, true_implies, Classical.not_not, Nat.le_refl, Nat.zero_le]
            try dsimp only
            exact go
    · have e : a = N := by omega
      subst e
      exact fin c la I' x5 hc hl he hct hfr
/-- cutText -/
theorem c106 (hS : SS K L G) (h60 : I 60 2 = 0 ∧ I 60 3 = -1) (hN8 : N ≤ 800) (ht : I 59 = t) (hch : ∀ k, k < N → 0 ≤ t k ∧ t k ≤ 255) : z_Ctr l 6 106 [.ref 61, .ref 59, .int (nI N)] (n, K, L, I, J, G) 0 0 (fun r h' => r = none ∧ ∃ M I', h' = (n, K, L, I', J, G) ∧ x_r0 I' t N M 0 ∧ x_cfr I I') := by
  refine z_ctr (by decide) (by decide +kernel) (Nat.le_of_ble_eq_true rfl) (by decide +kernel) (fun X hl hj hd hm hs hsc hQ => ?_)
  show zV X 0 [some (.ref 61), some (.ref 59), some (.int (nI N)), none, none, none] [] _ 0 0
  subst hl
  refine zW_ok hj B106_0 0 _ _ _ _ _ b106_0 ?_
  simp only [B106_0, zW, z_wp1, z_ld, z_f0, z_f1, z_f2, z_f3, List.getElem?_cons_zero, List.getElem?_cons_succ, true_and, and_true, Int32.reduceOfInt, z_i10, z_i01, Int32.reduceLT, Int32.reduceLE, Int32.reduceAdd, Int32.reduceSub, z_set, z_set2, z_kil, List.set_cons_zero, List.set_cons_succ, List.take_succ_cons, List.take_zero, List.drop_succ_cons, List.drop_zero, List.reverse_cons, List.reverse_nil, List.nil_append, List.cons_append, List.getD_cons_succ, List.getD_cons_zero, List.getD_nil, List.length_cons, List.length_nil, List.map_cons, List.map_nil, List.sum_cons, List.sum_nil, Nat.reduceAdd, Nat.reduceLeDiff, Value.category, Option.toList, true_or, or_true, z_ua, ↓reduceIte, Nat.reduceEqDiff, eq_self, not_true_eq_false, not_false_eq_true, false_implies, true_implies, Classical.not_not, Nat.le_refl, Nat.zero_le, sK61 hS]
  try dsimp only
  have f0 : x_cfr I (z_u I 61 3 0) := fun q a _ _ _ => z_u_ne a
  have ct0 : x_ct (z_u I 61 3 0) t N 0 := ⟨by rw [z_u_at, if_pos rfl]; rfl, fun j hj => by omega, fun j hj => by omega, fun j hj => by omega⟩
  have key := c106_loop (n := n) (J := J) hS hj hd hm hs hN8 ht hch (fun M I' x3 x4 x5 hM hct hfr k0 hP => ?_) N 0 0 0 (z_u I 61 3 0) none (by omega) (by omega) (by omega) (by omega) rfl ct0 f0
  · exact key
  · have e1 : (nI M).toNatClampNeg = M := nI_clamp (by omega)
    have v1 : vp_in (nI M) 801 := vp_in_nI (by omega) (by omega)
    obtain ⟨u1, u2, u3, u4⟩ := hct
    refine zW_ok hj B106_107 107 _ _ _ _ _ b106_107 ?_
    simp only [B106_107, zW, z_wp1, z_ld, z_f0, z_f1, z_f2, z_f3, List.getElem?_cons_zero, List.getElem?_cons_succ, true_and, and_true, Int32.reduceOfInt, z_i10, z_i01, Int32.reduceLT, Int32.reduceLE, Int32.reduceAdd, Int32.reduceSub, z_set, z_set2, z_kil, List.set_cons_zero, List.set_cons_succ, List.take_succ_cons, List.take_zero, List.drop_succ_cons, List.drop_zero, List.reverse_cons, List.reverse_nil, List.nil_append, List.cons_append, List.getD_cons_succ, List.getD_cons_zero, List.getD_nil, List.length_cons, List.length_nil, List.map_cons, List.map_nil, List.sum_cons, List.sum_nil, Nat.reduceAdd, Nat.reduceLeDiff, Value.category, Option.toList, true_or, or_true, z_ua, ↓reduceIte, Nat.reduceEqDiff, eq_self, not_true_eq_false, not_false_eq_true, false_implies, true_implies, Classical.not_not, Nat.le_refl, Nat.zero_le, z_hI, sK61 hS, sG61_0 hS, sK62 hS, sL62 hS, sG61_1 hS, sK63 hS, sL63 hS, u1, v1]
    try dsimp only
    rw [e1]
    generalize hI2 : z_u (z_u (z_u I' 62 M 0) 63 M (nI N)) 61 4 (-1) = I2
    have a1 : I2 61 3 = nI M := by rw [← hI2, z_u_at, if_neg (by decide), z_u_ne (by decide), z_u_ne (by decide)]; exact u1
    have a2 : I2 61 4 = -1 := by rw [← hI2, z_u_at, if_pos rfl]
    have a3 : ∀ j, j ≤ M → I2 62 j = p_K t N j ∧ I2 63 j = nI (p_P t N j) := by
      intro j hj
      rw [← hI2, z_u_ne (show (62 : Nat) ≠ 61 by decide), z_u_ne (show (62 : Nat) ≠ 63 by decide), z_u_at, z_u_ne (show (63 : Nat) ≠ 61 by decide), z_u_at, z_u_ne (show (63 : Nat) ≠ 62 by decide)]
      by_cases z : j = M
      · subst z
        rw [if_pos rfl, if_pos rfl, k0, hP]
        exact ⟨rfl, rfl⟩
      · rw [if_neg z, if_neg z]
        exact u2 j (by omega)
    have a4 : I2 64 = I' 64 := by rw [← hI2, z_u_ne (by decide), z_u_ne (by decide), z_u_ne (by decide)]
    have a5 : x_cfr I I2 := fun q h1 h2 h3 h4 => by rw [← hI2, z_u_ne h1, z_u_ne h3, z_u_ne h2]; exact hfr q h1 h2 h3 h4
    refine z_callD (c107 (I := I2) (J := J) hS a1 (by omega) a2 (k := 0) (by decide) (by omega) (Int32.lt_of_lt_of_le (show (-1 : Int32) < 0 by decide) (nI_pos' (by omega)))) (by omega) (by omega) (by omega) (Nat.le_of_ble_eq_true rfl) ?_
    try simp only [zW, z_wp1, z_ld, z_f0, z_f1, z_f2, z_f3, List.getElem?_cons_zero, List.getElem?_cons_succ, true_and, and_true, Int32.reduceOfInt, z_i10, z_i01, Int32.reduceLT, Int32.reduceLE, Int32.reduceAdd, Int32.reduceSub, z_set, z_set2, z_kil, List.set_cons_zero, List.set_cons_succ, List.take_succ_cons, List.take_zero, List.drop_succ_cons, List.drop_zero, List.reverse_cons, List.reverse_nil, List.nil_append, List.cons_append, List.getD_cons_succ, List.getD_cons_zero, List.getD_nil, List.length_cons, List.length_nil, List.map_cons, List.map_nil, List.sum_cons, List.sum_nil, Nat.reduceAdd, Nat.reduceLeDiff, Value.category, Option.toList, true_or, or_true, z_ua, ↓reduceIte, Nat.reduceEqDiff, eq_self, not_true_eq_false, not_false_eq_true, false_implies, true_implies, Classical.not_not, Nat.le_refl, Nat.zero_le]
    try dsimp only
    refine hQ _ _ ⟨rfl, M, _, rfl, ⟨⟨?_, by omega, fun j hj => ?_, fun j hj hy => ?_, u4, k0⟩, Nat.zero_le _, ?_, ?_, ?_, fun hy => ?_, ?_, ?_⟩, fun q h1 h2 h3 h4 => ?_⟩
    · rw [z_u_at, if_neg (by decide), z_u_at, if_neg (by decide), z_u_at, if_neg (by decide), z_u_at, if_neg (by decide)]; exact a1
    · rw [z_u_ne (show (62 : Nat) ≠ 61 by decide), z_u_ne (show (62 : Nat) ≠ 61 by decide), z_u_ne (show (62 : Nat) ≠ 61 by decide), z_u_ne (show (62 : Nat) ≠ 61 by decide), z_u_ne (show (63 : Nat) ≠ 61 by decide), z_u_ne (show (63 : Nat) ≠ 61 by decide), z_u_ne (show (63 : Nat) ≠ 61 by decide), z_u_ne (show (63 : Nat) ≠ 61 by decide)]; exact a3 j hj
    · rw [z_u_ne (show (64 : Nat) ≠ 61 by decide), z_u_ne (show (64 : Nat) ≠ 61 by decide), z_u_ne (show (64 : Nat) ≠ 61 by decide), z_u_ne (show (64 : Nat) ≠ 61 by decide), a4]; exact u3 j hj hy
    · rw [z_u_at, if_neg (by decide), z_u_at, if_neg (by decide), z_u_at, if_neg (by decide), z_u_at, if_pos rfl]
    · rw [z_u_at, if_neg (by decide), z_u_at, if_neg (by decide), z_u_at, if_pos rfl]; exact (a3 0 (by omega)).1
    · rw [z_u_at, if_neg (by decide), z_u_at, if_pos rfl]; exact (a3 0 (by omega)).2
    · rw [z_u_at, if_pos rfl, a4]
      refine u3 0 ?_ hy
      rcases Nat.eq_zero_or_pos M with z | z
      · subst z
        rw [k0] at hy
        rcases hy with y | y <;> exact absurd y (by decide)
      · exact z
    · rw [z_u_ne (by decide), z_u_ne (by decide), z_u_ne (by decide), z_u_ne (by decide), a5 60 (by decide) (by decide) (by decide) (by decide)]; exact h60.1
    · rw [z_u_ne (by decide), z_u_ne (by decide), z_u_ne (by decide), z_u_ne (by decide), a5 60 (by decide) (by decide) (by decide) (by decide)]; exact h60.2
    · rw [z_u_ne h1, z_u_ne h1, z_u_ne h1, z_u_ne h1]; exact a5 q h1 h2 h3 h4
end TOK4
