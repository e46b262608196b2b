/-! The class's reader: sums -/
theorem r_bd_as (x : p_R) (f g : Nat → p_R) : r_bd (r_bd x f) g = r_bd x (fun j => r_bd (f j) g) := by
  cases x with
  | error e => rfl
  | ok y =>
    cases e1 : f y.1 with
    | error e => rw [r_bd_e e1, r_bd_r, r_bd_e (by rw [e1]; rfl)]
    | ok z =>
      rw [r_bd_k e1]
      cases e2 : g z.1 with
      | error e => rw [r_bd_e2 e2, r_bd_e (by rw [e1]; exact r_bd_e e2)]
      | ok u => rw [r_bd_k2 e2, r_bd_k (z := (u.1, z.2 ++ u.2)) (by rw [e1]; exact r_bd_k e2), List.append_assoc]
theorem r_bd_0 (j : Nat) (f : Nat → p_R) : r_bd (.ok (j, [])) f = f j := by
  cases e : f j with
  | error q => exact r_bd_e (y := (j, [])) e
  | ok z => rw [r_bd_k (y := (j, [])) e]; rfl
theorem x_re_bd {t : Nat → Int32} {N M cd i i2 : Nat} {xs zs : List (Int32 × Int32)} {y : Nat × List (Int32 × Int32)} {f : Nat → p_R} {r : Option Value} {I : Nat → Nat → Int32} (hz : q_ok zs y.2) (hl : zs.length + i ≤ i2) (h : x_re t N M cd i2 (xs ++ zs) (f y.1) r I) : x_re t N M cd i xs (r_bd (.ok y) f) r I := by
  cases e : f y.1 with
  | error q => rw [e] at h; rw [r_bd_e e]; exact h
  | ok z =>
    rw [e] at h
    rw [r_bd_k e]
    obtain ⟨h1, ws, h2, h3, h4⟩ := h
    refine ⟨h1, zs ++ ws, by rw [← List.append_assoc]; exact h2, hz.app h3, ?_⟩
    rw [List.length_append]
    show zs.length + ws.length + i ≤ z.1
    omega
/-- what a sum still has to read: with the sign that waits -/
def r_su (kd am : Nat → Int32) (w : List (Int32 × Int32)) (k1 k2 j : Nat) : p_R := r_bd (r_pl kd am k1 j) (fun i => r_bd (.ok (i, p_fl w)) (r_sl kd am k2))
def r_dv (kd am : Nat → Int32) (i : Nat) : p_R := if ¬ kd i = 17 then .error (1, i) else if am i = 0 then .error (2, i) else .ok (i + 1, [(0, am i), (5, 0)])
theorem r_su_5 {kd am : Nat → Int32} {w : List (Int32 × Int32)} {k k2 j : Nat} (h : kd j = 5) : r_su kd am w (k + 1) k2 j = r_bd (r_un kd am (j + 1)) (fun i => r_bd (.ok (i, [(4, 0)])) (r_su kd am w k k2)) := by
  rw [r_su, r_pl, if_pos h, r_bd_as, r_bd_as]
  rfl
theorem r_su_6 {kd am : Nat → Int32} {w : List (Int32 × Int32)} {k k2 j : Nat} (h : kd j = 6) : r_su kd am w (k + 1) k2 j = r_bd (r_dv kd am (j + 1)) (r_su kd am w k k2) := by
  have h5 : ¬ kd j = 5 := by rw [h]; decide
  rw [r_su, r_pl, if_neg h5, if_pos h, r_dv]
  by_cases h17 : ¬ kd (j + 1) = 17
  · rw [if_pos h17, if_pos h17]; rfl
  · rw [if_neg h17, if_neg h17]
    by_cases ha : am (j + 1) = 0
    · rw [if_pos ha, if_pos ha]; rfl
    · rw [if_neg ha, if_neg ha, r_bd_as]; rfl
theorem r_su_l {kd am : Nat → Int32} {w : List (Int32 × Int32)} {k1 k j : Nat} {s : Int32} (h : kd j = s) (hs : s = 3 ∨ s = 4) : r_su kd am w (k1 + 1) (k + 1) j = r_bd (.ok (j + 1, p_fl w)) (fun i => r_bd (r_un kd am i) (r_su kd am [(s, 0)] 802 k)) := by
  have h5 : ¬ kd j = 5 := by rw [h]; rcases hs with z | z <;> (rw [z]; decide)
  have h6 : ¬ kd j = 6 := by rw [h]; rcases hs with z | z <;> (rw [z]; decide)
  have hfl : p_fl [(s, 0)] = [(if kd j = 3 then 2 else 3, 0)] := by
    rw [h]
    rcases hs with z | z <;> (subst z; rfl)
  have e : ∀ x : p_R, r_bd (.ok (j + 1, p_fl w)) (fun _ => x) = r_bd (.ok (j, p_fl w)) (fun _ => x) := fun x => rfl
  rw [r_su, r_pl, if_neg h5, if_neg h6, r_bd_0]
  have e1 : r_sl kd am (k + 1) j = r_bd (r_un kd am (j + 1)) (r_su kd am [(s, 0)] 802 k) := by
    rw [r_sl, if_pos (by rw [h]; exact hs), r_pr, r_bd_as, r_bd_as]
    congr 1
    funext i
    rw [r_su, hfl]
  cases e2 : r_bd (r_un kd am (j + 1)) (r_su kd am [(s, 0)] 802 k) with
  | error q => rw [r_bd_e (y := (j, p_fl w)) (e1.trans e2), r_bd_e (y := (j + 1, p_fl w)) e2]
  | ok z => rw [r_bd_k (y := (j, p_fl w)) (e1.trans e2), r_bd_k (y := (j + 1, p_fl w)) e2]
theorem r_su_e {kd am : Nat → Int32} {w : List (Int32 × Int32)} {k1 k j : Nat} (h : ¬ (kd j = 3 ∨ kd j = 4 ∨ kd j = 5 ∨ kd j = 6)) : r_su kd am w (k1 + 1) (k + 1) j = .ok (j, p_fl w) := by
  rw [r_su, r_pl, if_neg (fun q => h (Or.inr (Or.inr (Or.inl q)))), if_neg (fun q => h (Or.inr (Or.inr (Or.inr q)))), r_bd_0, r_bd_k (y := (j, p_fl w)) (z := (j, [])) (by rw [r_sl, if_neg (fun q => h (by rcases q with z | z; exact Or.inl z; exact Or.inr (Or.inl z)))]), List.append_nil]
section XRD3
variable {l : Launch} {n : Nat} {K L : Nat → Nat} {I : Nat → Nat → Int32} {J : Nat → Nat → Int64} {G : Nat → Nat → Value} {t : Nat → Int32} {N M i cd : Nat} {xs : List (Int32 × Int32)}
/-- the sign that waits, as a local and as a code -/
def x_wt (v : Int32) (w : List (Int32 × Int32)) : Prop := (v = -1 ∧ w = []) ∨ ((v = 3 ∨ v = 4) ∧ w = [(v, 0)])
theorem x_wt.ok {v : Int32} {w : List (Int32 × Int32)} (h : x_wt v w) : q_ok w (p_fl w) := ⟨rfl, fun x hx => by
  rcases h with ⟨_, rfl⟩ | ⟨h, rfl⟩
  · cases hx
  · rw [List.mem_singleton.mp hx]
    rcases h with rfl | rfl <;> decide⟩
theorem c67_loop {X : zX} (he : x_en K L G t N cd) (hj : X.2.1 = 67) (hdp : X.2.2.1 = 2) (hm : X.2.2.2.1 = 0) (hs : X.2.2.2.2.1 = 0) : ∀ (f j c k1 k2 i' : Nat) (xs w : List (Int32 × Int32)) (v : Int32) (I' : Nat → Nat → Int32) (x3 x4 : Option Value), 802 ≤ j + f → 802 ≤ j + k1 → 802 ≤ j + k2 → c < j → x_wt v w → x_rd I' t N M cd j xs → xs.length + w.length ≤ j → i' + w.length ≤ j → x_rf I I' cd → (∀ r I2, x_rf I I2 cd → x_re t N M cd i' xs (r_su (p_K t N) (p_A t N) w k1 k2 j) r I2 → X.2.2.2.2.2.2 r (n, K, L, I2, J, G)) → zV X 13 [some (.ref 60), some (.int v), some (.int (nI c)), x3, x4] [] (n, K, L, I', J, G) 0 0 := by
  intro f
  induction f with
  | zero =>
    intro j c k1 k2 i' xs w v I' x3 x4 hf _ _ _ _ hr
    have := hr.1.2.1
    have := hr.1.1.2.1
    omega
  | succ f ih =>
    intro j c k1 k2 i' xs w v I' x3 x4 hf hk1 hk2 hcj hw hr hlen hi' hfr hQ
    obtain ⟨hS, h2, hG, hK, hch⟩ := id he
    obtain ⟨h0, hc, hl8⟩ := id hr
    have hjM := h0.2.1
    have hM8 := h0.1.2.1
    have hkd : I' 61 5 = p_K t N j := h0.2.2.2.1
    have nle : ¬ (800 : Int32) ≤ nI c := fun q => by
      have := (nI_leI (a := 800) (b := c) (by omega) (by omega)).mp q
      omega
    obtain ⟨k1', rfl⟩ : ∃ k, k1 = k + 1 := ⟨k1 - 1, by omega⟩
    obtain ⟨k2', rfl⟩ : ∃ k, k2 = k + 1 := ⟨k2 - 1, by omega⟩
    have c68' := c68 (l := X.1) (h := (n, K, L, I', J, G)) (p_K t N j)
    have hw1 : w.length ≤ 1 := by rcases hw with ⟨_, rfl⟩ | ⟨_, rfl⟩ <;> simp
    -- a waiting sign put down
    have putw : ¬ v = -1 → z_Ctr X.1 0 49 [.ref cd, .int v, .int 0] (n, K, L, I', J, G) 0 0 (fun r h' => r = none ∧ ∃ I2, h' = (n, K, L, I2, J, G) ∧ x_rf I' I2 cd ∧ x_r0 I2 t N M j ∧ x_cd' I2 cd (xs ++ w) ∧ I2 60 = I' 60) := by
      intro hv
      rcases hw with ⟨z, _⟩ | ⟨z, rfl⟩
      · exact absurd z hv
      · have hlw : xs.length + 1 ≤ j := hlen
        rcases z with rfl | rfl
        · exact c49x (k := 3) (a := 0) hS h0 hc (by omega) h2 (by omega) (by omega)
        · exact c49x (k := 4) (a := 0) hS h0 hc (by omega) h2 (by omega) (by omega)
    have hw0 : v = -1 → w = [] := fun z => by
      rcases hw with ⟨_, q⟩ | ⟨q, _⟩
      · exact q
      · rcases q with q | q <;> (rw [z] at q; exact absurd q (by decide))
    by_cases har : p_K t N j = 3 ∨ p_K t N j = 4 ∨ p_K t N j = 5 ∨ p_K t N j = 6
    · have hk0 : ¬ p_K t N j = 0 := fun q => by rcases har with z | z | z | z <;> (rw [z] at q; exact absurd q (by decide))
      obtain ⟨hjM', -⟩ := h0.lt hk0
      -- behind the advance
      have tail : ∀ (v2 : Int32) (w2 xs2 : List (Int32 × Int32)) (I2 : Nat → Nat → Int32) (x4 : Int32) (kk1 kk2 i2 : Nat), 802 ≤ j + 2 + kk1 → 802 ≤ j + 2 + kk2 → x_wt v2 w2 → xs2.length + w2.length ≤ j + 1 → (p_K t N j = 5 → xs2.length + w2.length ≤ j) → i2 + w2.length ≤ j + 1 → (p_K t N j = 5 → i2 + w2.length ≤ j) → xs2.length ≤ j + 1 → x_r0 I2 t N M j → x_cd' I2 cd xs2 → x_rf I I2 cd → (∀ r I3, x_rf I I3 cd → x_re t N M cd i2 xs2 (if p_K t N j = 6 then r_bd (r_dv (p_K t N) (p_A t N) (j + 1)) (r_su (p_K t N) (p_A t N) w2 kk1 kk2) else r_bd (r_un (p_K t N) (p_A t N) (j + 1)) (fun i => r_bd (.ok (i, if p_K t N j = 5 then [(4, 0)] else [])) (r_su (p_K t N) (p_A t N) w2 kk1 kk2))) r I3 → X.2.2.2.2.2.2 r (n, K, L, I3, J, G)) → zV X 87 [some (.ref 60), some (.int v), some (.int (nI c)), some (.int (p_K t N j)), some (.int x4)] [.int v2] (n, K, L, I2, J, G) 0 0 := by
        intro v2 w2 xs2 I2 x4 kk1 kk2 i2 hq1 hq2 hw2 hlen2 hlen3 hi2 hi3 hxl hr2 hc2 hfr2 hQ2
        have bad : ∀ I3 : Nat → Nat → Int32, X.2.2.2.2.2.2 (some (.int 0)) (n, K, L, I3, J, G) → ∀ s : Int32, zV X 118 [some (.ref 60), some (.int v2), some (.int (nI c)), some (.int s), some (.int x4)] [] (n, K, L, I3, J, G) 0 0 := by
          intro I3 q s
          refine zW_ok hj B67_118 118 _ _ _ _ _ b67_118 ?_
          simp only [B67_118, zW, z_wp1, z_ld, z_f0, z_f1, z_f2, z_f3, List.getElem?_cons_zero, List.getElem?_cons_succ, true_and, and_true, Int32.reduceOfInt, z_i10, z_i01, Int32.reduceLT, Int32.reduceLE, Int32.reduceAdd, Int32.reduceSub, z_set, z_set2, z_kil, List.set_cons_zero, List.set_cons_succ, List.take_succ_cons, List.take_zero, List.drop_succ_cons, List.drop_zero, List.reverse_cons, List.reverse_nil, List.nil_append, List.cons_append, List.getD_cons_succ, List.getD_cons_zero, List.getD_nil, List.length_cons, List.length_nil, List.map_cons, List.map_nil, List.sum_cons, List.sum_nil, Nat.reduceAdd, Nat.reduceLeDiff, Value.category, Option.toList, true_or, or_true, z_ua, ↓reduceIte, Nat.reduceEqDiff, eq_self, not_true_eq_false, not_false_eq_true, false_implies, true_implies, Classical.not_not, Nat.le_refl, Nat.zero_le]
          try dsimp only
          exact q
        have back : ∀ (j' i3 : Nat) (ys : List (Int32 × Int32)) (I4 : Nat → Nat → Int32) (s : Int32), j + 2 ≤ j' → x_rd I4 t N M cd j' ys → ys.length + w2.length ≤ j' → i3 + w2.length ≤ j' → x_rf I I4 cd → (∀ r I5, x_rf I I5 cd → x_re t N M cd i3 ys (r_su (p_K t N) (p_A t N) w2 kk1 kk2 j') r I5 → X.2.2.2.2.2.2 r (n, K, L, I5, J, G)) → zV X 134 [some (.ref 60), some (.int v2), some (.int (nI c)), some (.int s), some (.int x4)] [] (n, K, L, I4, J, G) 0 0 := by
          intro j' i3 ys I4 s hj' hr4 hl4 hi4 f4 q4
          refine zW_ok hj B67_134 134 _ _ _ _ _ b67_134 ?_
          simp only [B67_134, zW, z_wp1, z_ld, z_f0, z_f1, z_f2, z_f3, List.getElem?_cons_zero, List.getElem?_cons_succ, true_and, and_true, Int32.reduceOfInt, z_i10, z_i01, Int32.reduceLT, Int32.reduceLE, Int32.reduceAdd, Int32.reduceSub, z_set, z_set2, z_kil, List.set_cons_zero, List.set_cons_succ, List.take_succ_cons, List.take_zero, List.drop_succ_cons, List.drop_zero, List.reverse_cons, List.reverse_nil, List.nil_append, List.cons_append, List.getD_cons_succ, List.getD_cons_zero, List.getD_nil, List.length_cons, List.length_nil, List.map_cons, List.map_nil, List.sum_cons, List.sum_nil, Nat.reduceAdd, Nat.reduceLeDiff, Value.category, Option.toList, true_or, or_true, z_ua, ↓reduceIte, Nat.reduceEqDiff, eq_self, not_true_eq_false, not_false_eq_true, false_implies, true_implies, Classical.not_not, Nat.le_refl, Nat.zero_le, nI_1]
          try dsimp only
          exact ih j' (c + 1) kk1 kk2 i3 ys w2 v2 I4 _ _ (by omega) (by omega) (by omega) (by omega) hw2 hr4 hl4 hi4 f4 q4
        refine zW_ok hj B67_87 87 _ _ _ _ _ b67_87 ?_
        simp only [B67_87, zW, z_wp1, z_ld, z_f0, z_f1, z_f2, z_f3, List.getElem?_cons_zero, List.getElem?_cons_succ, true_and, and_true, Int32.reduceOfInt, z_i10, z_i01, Int32.reduceLT, Int32.reduceLE, Int32.reduceAdd, Int32.reduceSub, z_set, z_set2, z_kil, List.set_cons_zero, List.set_cons_succ, List.take_succ_cons, List.take_zero, List.drop_succ_cons, List.drop_zero, List.reverse_cons, List.reverse_nil, List.nil_append, List.cons_append, List.getD_cons_succ, List.getD_cons_zero, List.getD_nil, List.length_cons, List.length_nil, List.map_cons, List.map_nil, List.sum_cons, List.sum_nil, Nat.reduceAdd, Nat.reduceLeDiff, Value.category, Option.toList, true_or, or_true, z_ua, ↓reduceIte, Nat.reduceEqDiff, eq_self, not_true_eq_false, not_false_eq_true, false_implies, true_implies, Classical.not_not, Nat.le_refl, Nat.zero_le, sK60 hS, sG60_0 hS, sK61 hS, sK61 hS]
        try dsimp only
        refine z_callQ (c107x (J := J) hS hr2 hc2 h2 hk0) (by omega) (by omega) (by omega) (Nat.le_of_ble_eq_true rfl) ?_
        rintro r h' ⟨rfl, I3, rfl, f3, r3, c3, -⟩
        have rd3 : x_rd I3 t N M cd (j + 1) xs2 := ⟨r3, c3, hxl⟩
        by_cases h6 : p_K t N j = 6
        · rw [if_pos h6] at hQ2
          simp only [zW, z_wp1, z_ld, z_f0, z_f1, z_f2, z_f3, List.getElem?_cons_zero, List.getElem?_cons_succ, true_and, and_true, Int32.reduceOfInt, z_i10, z_i01, Int32.reduceLT, Int32.reduceLE, Int32.reduceAdd, Int32.reduceSub, z_set, z_set2, z_kil, List.set_cons_zero, List.set_cons_succ, List.take_succ_cons, List.take_zero, List.drop_succ_cons, List.drop_zero, List.reverse_cons, List.reverse_nil, List.nil_append, List.cons_append, List.getD_cons_succ, List.getD_cons_zero, List.getD_nil, List.length_cons, List.length_nil, List.map_cons, List.map_nil, List.sum_cons, List.sum_nil, Nat.reduceAdd, Nat.reduceLeDiff, Value.category, Option.toList, true_or, or_true, z_ua, ↓reduceIte, Nat.reduceEqDiff, eq_self, not_true_eq_false, not_false_eq_true, false_implies, true_implies, Classical.not_not, Nat.le_refl, Nat.zero_le, h6, sK60 hS]
          try dsimp only
          refine z_callQ (c69 (J := J) he rd3) (by omega) (by omega) (by omega) (Nat.le_of_ble_eq_true rfl) ?_
          rintro r h' ⟨I4, rfl, f4, e4⟩
          have f14 : x_rf I I4 cd := (hfr2.tr f3).tr f4
          rcases x_re_q e4 with ⟨e, hR, rfl, q1, q2⟩ | ⟨y, hR, rfl, zs, rd4, hz, hl4⟩
          · have hR' : r_dv (p_K t N) (p_A t N) (j + 1) = .error e := hR
            rw [hR', r_bd_r] at hQ2
            simp only [zW, z_wp1, z_ld, z_f0, z_f1, z_f2, z_f3, List.getElem?_cons_zero, List.getElem?_cons_succ, true_and, and_true, Int32.reduceOfInt, z_i10, z_i01, Int32.reduceLT, Int32.reduceLE, Int32.reduceAdd, Int32.reduceSub, z_set, z_set2, z_kil, List.set_cons_zero, List.set_cons_succ, List.take_succ_cons, List.take_zero, List.drop_succ_cons, List.drop_zero, List.reverse_cons, List.reverse_nil, List.nil_append, List.cons_append, List.getD_cons_succ, List.getD_cons_zero, List.getD_nil, List.length_cons, List.length_nil, List.map_cons, List.map_nil, List.sum_cons, List.sum_nil, Nat.reduceAdd, Nat.reduceLeDiff, Value.category, Option.toList, true_or, or_true, z_ua, ↓reduceIte, Nat.reduceEqDiff, eq_self, not_true_eq_false, not_false_eq_true, false_implies, true_implies, Classical.not_not, Nat.le_refl, Nat.zero_le]
            try dsimp only
            exact bad I4 (hQ2 _ _ f14 ⟨rfl, q1, q2⟩) 6
          · have hR' : r_dv (p_K t N) (p_A t N) (j + 1) = .ok y := hR
            have hy1 : y.1 = j + 2 := by
              unfold r_dv at hR'
              split at hR'
              · cases hR'
              · split at hR'
                · cases hR'
                · cases hR'; rfl
            rw [hR'] at hQ2
            simp only [zW, z_wp1, z_ld, z_f0, z_f1, z_f2, z_f3, List.getElem?_cons_zero, List.getElem?_cons_succ, true_and, and_true, Int32.reduceOfInt, z_i10, z_i01, Int32.reduceLT, Int32.reduceLE, Int32.reduceAdd, Int32.reduceSub, z_set, z_set2, z_kil, List.set_cons_zero, List.set_cons_succ, List.take_succ_cons, List.take_zero, List.drop_succ_cons, List.drop_zero, List.reverse_cons, List.reverse_nil, List.nil_append, List.cons_append, List.getD_cons_succ, List.getD_cons_zero, List.getD_nil, List.length_cons, List.length_nil, List.map_cons, List.map_nil, List.sum_cons, List.sum_nil, Nat.reduceAdd, Nat.reduceLeDiff, Value.category, Option.toList, true_or, or_true, z_ua, ↓reduceIte, Nat.reduceEqDiff, eq_self, not_true_eq_false, not_false_eq_true, false_implies, true_implies, Classical.not_not, Nat.le_refl, Nat.zero_le]
            try dsimp only
            refine zW_ok hj B67_120 120 _ _ _ _ _ b67_120 ?_
            simp only [B67_120, zW, z_wp1, z_ld, z_f0, z_f1, z_f2, z_f3, List.getElem?_cons_zero, List.getElem?_cons_succ, true_and, and_true, Int32.reduceOfInt, z_i10, z_i01, Int32.reduceLT, Int32.reduceLE, Int32.reduceAdd, Int32.reduceSub, z_set, z_set2, z_kil, List.set_cons_zero, List.set_cons_succ, List.take_succ_cons, List.take_zero, List.drop_succ_cons, List.drop_zero, List.reverse_cons, List.reverse_nil, List.nil_append, List.cons_append, List.getD_cons_succ, List.getD_cons_zero, List.getD_nil, List.length_cons, List.length_nil, List.map_cons, List.map_nil, List.sum_cons, List.sum_nil, Nat.reduceAdd, Nat.reduceLeDiff, Value.category, Option.toList, true_or, or_true, z_ua, ↓reduceIte, Nat.reduceEqDiff, eq_self, not_true_eq_false, not_false_eq_true, false_implies, true_implies, Classical.not_not, Nat.le_refl, Nat.zero_le]
            try dsimp only
            refine ⟨fun _ => ?_, fun q => absurd q (by decide)⟩
            exact back y.1 (y.1 - w2.length) (xs2 ++ zs) I4 6 (by omega) rd4 (by rw [List.length_append]; omega) (by omega) f14 (fun r I5 f5 e5 => hQ2 r I5 f5 (x_re_bd hz (by omega) e5))
        · rw [if_neg h6] at hQ2
          simp only [zW, z_wp1, z_ld, z_f0, z_f1, z_f2, z_f3, List.getElem?_cons_zero, List.getElem?_cons_succ, true_and, and_true, Int32.reduceOfInt, z_i10, z_i01, Int32.reduceLT, Int32.reduceLE, Int32.reduceAdd, Int32.reduceSub, z_set, z_set2, z_kil, List.set_cons_zero, List.set_cons_succ, List.take_succ_cons, List.take_zero, List.drop_succ_cons, List.drop_zero, List.reverse_cons, List.reverse_nil, List.nil_append, List.cons_append, List.getD_cons_succ, List.getD_cons_zero, List.getD_nil, List.length_cons, List.length_nil, List.map_cons, List.map_nil, List.sum_cons, List.sum_nil, Nat.reduceAdd, Nat.reduceLeDiff, Value.category, Option.toList, true_or, or_true, z_ua, ↓reduceIte, Nat.reduceEqDiff, eq_self, not_true_eq_false, not_false_eq_true, false_implies, true_implies, Classical.not_not, Nat.le_refl, Nat.zero_le, h6]
          try dsimp only
          refine zW_ok hj B67_111 111 _ _ _ _ _ b67_111 ?_
          simp only [B67_111, zW, z_wp1, z_ld, z_f0, z_f1, z_f2, z_f3, List.getElem?_cons_zero, List.getElem?_cons_succ, true_and, and_true, Int32.reduceOfInt, z_i10, z_i01, Int32.reduceLT, Int32.reduceLE, Int32.reduceAdd, Int32.reduceSub, z_set, z_set2, z_kil, List.set_cons_zero, List.set_cons_succ, List.take_succ_cons, List.take_zero, List.drop_succ_cons, List.drop_zero, List.reverse_cons, List.reverse_nil, List.nil_append, List.cons_append, List.getD_cons_succ, List.getD_cons_zero, List.getD_nil, List.length_cons, List.length_nil, List.map_cons, List.map_nil, List.sum_cons, List.sum_nil, Nat.reduceAdd, Nat.reduceLeDiff, Value.category, Option.toList, true_or, or_true, z_ua, ↓reduceIte, Nat.reduceEqDiff, eq_self, not_true_eq_false, not_false_eq_true, false_implies, true_implies, Classical.not_not, Nat.le_refl, Nat.zero_le, sK60 hS]
          try dsimp only
          refine z_callQ (c70 (J := J) he rd3) (by omega) (by omega) (by omega) (Nat.le_of_ble_eq_true rfl) ?_
          rintro r h' ⟨I4, rfl, f4, e4⟩
          have f14 : x_rf I I4 cd := (hfr2.tr f3).tr f4
          rcases x_re_q e4 with ⟨e, hR, rfl, q1, q2⟩ | ⟨y, hR, rfl, zs, rd4, hz, hl4⟩
          · rw [hR, r_bd_r] at hQ2
            simp only [zW, z_wp1, z_ld, z_f0, z_f1, z_f2, z_f3, List.getElem?_cons_zero, List.getElem?_cons_succ, true_and, and_true, Int32.reduceOfInt, z_i10, z_i01, Int32.reduceLT, Int32.reduceLE, Int32.reduceAdd, Int32.reduceSub, z_set, z_set2, z_kil, List.set_cons_zero, List.set_cons_succ, List.take_succ_cons, List.take_zero, List.drop_succ_cons, List.drop_zero, List.reverse_cons, List.reverse_nil, List.nil_append, List.cons_append, List.getD_cons_succ, List.getD_cons_zero, List.getD_nil, List.length_cons, List.length_nil, List.map_cons, List.map_nil, List.sum_cons, List.sum_nil, Nat.reduceAdd, Nat.reduceLeDiff, Value.category, Option.toList, true_or, or_true, z_ua, ↓reduceIte, Nat.reduceEqDiff, eq_self, not_true_eq_false, not_false_eq_true, false_implies, true_implies, Classical.not_not, Nat.le_refl, Nat.zero_le]
            try dsimp only
            exact bad I4 (hQ2 _ _ f14 ⟨rfl, q1, q2⟩) _
          · have hy1 : y.1 = j + 2 := by
              unfold r_un at hR
              split at hR
              · cases hR; rfl
              · cases hR
            rw [hR] at hQ2
            simp only [zW, z_wp1, z_ld, z_f0, z_f1, z_f2, z_f3, List.getElem?_cons_zero, List.getElem?_cons_succ, true_and, and_true, Int32.reduceOfInt, z_i10, z_i01, Int32.reduceLT, Int32.reduceLE, Int32.reduceAdd, Int32.reduceSub, z_set, z_set2, z_kil, List.set_cons_zero, List.set_cons_succ, List.take_succ_cons, List.take_zero, List.drop_succ_cons, List.drop_zero, List.reverse_cons, List.reverse_nil, List.nil_append, List.cons_append, List.getD_cons_succ, List.getD_cons_zero, List.getD_nil, List.length_cons, List.length_nil, List.map_cons, List.map_nil, List.sum_cons, List.sum_nil, Nat.reduceAdd, Nat.reduceLeDiff, Value.category, Option.toList, true_or, or_true, z_ua, ↓reduceIte, Nat.reduceEqDiff, eq_self, not_true_eq_false, not_false_eq_true, false_implies, true_implies, Classical.not_not, Nat.le_refl, Nat.zero_le]
            try dsimp only
            by_cases h5 : p_K t N j = 5
            · rw [if_pos h5] at hQ2
              have := hlen3 h5
              have := hi3 h5
              refine zW_ok hj B67_120 120 _ _ _ _ _ b67_120 ?_
              simp only [B67_120, zW, z_wp1, z_ld, z_f0, z_f1, z_f2, z_f3, List.getElem?_cons_zero, List.getElem?_cons_succ, true_and, and_true, Int32.reduceOfInt, z_i10, z_i01, Int32.reduceLT, Int32.reduceLE, Int32.reduceAdd, Int32.reduceSub, z_set, z_set2, z_kil, List.set_cons_zero, List.set_cons_succ, List.take_succ_cons, List.take_zero, List.drop_succ_cons, List.drop_zero, List.reverse_cons, List.reverse_nil, List.nil_append, List.cons_append, List.getD_cons_succ, List.getD_cons_zero, List.getD_nil, List.length_cons, List.length_nil, List.map_cons, List.map_nil, List.sum_cons, List.sum_nil, Nat.reduceAdd, Nat.reduceLeDiff, Value.category, Option.toList, true_or, or_true, z_ua, ↓reduceIte, Nat.reduceEqDiff, eq_self, not_true_eq_false, not_false_eq_true, false_implies, true_implies, Classical.not_not, Nat.le_refl, Nat.zero_le, h5, sK60 hS, hG, hK]
              try dsimp only
              refine z_callQ (c49x (J := J) (k := 5) (a := 0) hS rd4.1 rd4.2.1 (by rw [List.length_append]; have := rd4.1.2.1; omega) h2 (by omega) (by omega)) (by omega) (by omega) (by omega) (Nat.le_of_ble_eq_true rfl) ?_
              rintro r h' ⟨rfl, I5, rfl, f5, r5, c5, -⟩
              simp only [zW, z_wp1, z_ld, z_f0, z_f1, z_f2, z_f3, List.getElem?_cons_zero, List.getElem?_cons_succ, true_and, and_true, Int32.reduceOfInt, z_i10, z_i01, Int32.reduceLT, Int32.reduceLE, Int32.reduceAdd, Int32.reduceSub, z_set, z_set2, z_kil, List.set_cons_zero, List.set_cons_succ, List.take_succ_cons, List.take_zero, List.drop_succ_cons, List.drop_zero, List.reverse_cons, List.reverse_nil, List.nil_append, List.cons_append, List.getD_cons_succ, List.getD_cons_zero, List.getD_nil, List.length_cons, List.length_nil, List.map_cons, List.map_nil, List.sum_cons, List.sum_nil, Nat.reduceAdd, Nat.reduceLeDiff, Value.category, Option.toList, true_or, or_true, z_ua, ↓reduceIte, Nat.reduceEqDiff, eq_self, not_true_eq_false, not_false_eq_true, false_implies, true_implies, Classical.not_not, Nat.le_refl, Nat.zero_le]
              try dsimp only
              refine back y.1 (y.1 - w2.length) (xs2 ++ zs ++ [(nI 5, nI 0)]) I5 _ (by omega) ⟨r5, c5, by rw [List.length_append, List.length_append]; show xs2.length + zs.length + 1 ≤ y.1; omega⟩ (by rw [List.length_append, List.length_append]; show xs2.length + zs.length + 1 + w2.length ≤ y.1; omega) (by omega) (f14.tr f5) (fun r I6 f6 e6 => hQ2 r I6 f6 ?_)
              refine x_re_bd (i2 := y.1 - w2.length - 1) hz (by omega) (x_re_bd (zs := [(nI 5, nI 0)]) (y := (y.1, [(4, 0)])) (q_ok.one rfl (by decide)) (by show 1 + (y.1 - w2.length - 1) ≤ y.1 - w2.length; omega) e6)
            · rw [if_neg h5] at hQ2
              refine zW_ok hj B67_120 120 _ _ _ _ _ b67_120 ?_
              simp only [B67_120, zW, z_wp1, z_ld, z_f0, z_f1, z_f2, z_f3, List.getElem?_cons_zero, List.getElem?_cons_succ, true_and, and_true, Int32.reduceOfInt, z_i10, z_i01, Int32.reduceLT, Int32.reduceLE, Int32.reduceAdd, Int32.reduceSub, z_set, z_set2, z_kil, List.set_cons_zero, List.set_cons_succ, List.take_succ_cons, List.take_zero, List.drop_succ_cons, List.drop_zero, List.reverse_cons, List.reverse_nil, List.nil_append, List.cons_append, List.getD_cons_succ, List.getD_cons_zero, List.getD_nil, List.length_cons, List.length_nil, List.map_cons, List.map_nil, List.sum_cons, List.sum_nil, Nat.reduceAdd, Nat.reduceLeDiff, Value.category, Option.toList, true_or, or_true, z_ua, ↓reduceIte, Nat.reduceEqDiff, eq_self, not_true_eq_false, not_false_eq_true, false_implies, true_implies, Classical.not_not, Nat.le_refl, Nat.zero_le, h5]
              try dsimp only
              refine back y.1 (y.1 - w2.length) (xs2 ++ zs) I4 _ (by omega) rd4 (by rw [List.length_append]; omega) (by omega) f14 (fun r I5 f5 e5 => hQ2 r I5 f5 ?_)
              refine x_re_bd (i2 := y.1 - w2.length) hz (by omega) ?_
              rw [r_bd_0]
              exact e5
      have hb1 : z_b (p_K t N j = 3 ∨ p_K t N j = 4 ∨ p_K t N j = 5 ∨ p_K t N j = 6) = 1 := z_b1 har
      rw [hb1] at c68'
      by_cases hl : p_K t N j = 3 ∨ p_K t N j = 4
      · -- a loose sign
        have n6 : ¬ p_K t N j = 6 := fun q => by rcases hl with z | z <;> (rw [z] at q; exact absurd q (by decide))
        have n5 : ¬ p_K t N j = 5 := fun q => by rcases hl with z | z <;> (rw [z] at q; exact absurd q (by decide))
        rw [r_su_l rfl hl] at hQ
        have go : ∀ (xs2 : List (Int32 × Int32)) (I2 : Nat → Nat → Int32), xs2 = xs ++ w → x_r0 I2 t N M j → x_cd' I2 cd xs2 → x_rf I I2 cd → zV X 77 [some (.ref 60), some (.int v), some (.int (nI c)), some (.int (p_K t N j)), some (.int 1)] [] (n, K, L, I2, J, G) 0 0 := by
          intro xs2 I2 hx r2 c2 f2
          subst hx
          refine zW_ok hj B67_77 77 _ _ _ _ _ b67_77 ?_
          simp only [B67_77, zW, z_wp1, z_ld, z_f0, z_f1, z_f2, z_f3, List.getElem?_cons_zero, List.getElem?_cons_succ, true_and, and_true, Int32.reduceOfInt, z_i10, z_i01, Int32.reduceLT, Int32.reduceLE, Int32.reduceAdd, Int32.reduceSub, z_set, z_set2, z_kil, List.set_cons_zero, List.set_cons_succ, List.take_succ_cons, List.take_zero, List.drop_succ_cons, List.drop_zero, List.reverse_cons, List.reverse_nil, List.nil_append, List.cons_append, List.getD_cons_succ, List.getD_cons_zero, List.getD_nil, List.length_cons, List.length_nil, List.map_cons, List.map_nil, List.sum_cons, List.sum_nil, Nat.reduceAdd, Nat.reduceLeDiff, Value.category, Option.toList, true_or, or_true, z_ua, ↓reduceIte, Nat.reduceEqDiff, eq_self, not_true_eq_false, not_false_eq_true, false_implies, true_implies, Classical.not_not, Nat.le_refl, Nat.zero_le]
          try dsimp only
          refine tail (p_K t N j) [(p_K t N j, 0)] (xs ++ w) I2 1 802 k2' j (by omega) (by omega) (Or.inr ⟨hl, rfl⟩) (by rw [List.length_append]; show xs.length + w.length + 1 ≤ j + 1; omega) (fun q => absurd q n5) (by show j + 1 ≤ j + 1; omega) (fun q => absurd q n5) (by rw [List.length_append]; omega) r2 c2 f2 (fun r I3 f3 e3 => hQ r I3 f3 ?_)
          rw [if_neg n6] at e3
          refine x_re_bd (zs := w) (y := (j + 1, p_fl w)) (i2 := j) hw.ok (by omega) ?_
          have ee : (fun i => r_bd (.ok (i, if p_K t N j = 5 then [(4, 0)] else [])) (r_su (p_K t N) (p_A t N) [(p_K t N j, 0)] 802 k2')) = r_su (p_K t N) (p_A t N) [(p_K t N j, 0)] 802 k2' := by
            funext i
            rw [if_neg n5, r_bd_0]
          rw [ee] at e3
          exact e3
        have mid : zV X 51 [some (.ref 60), some (.int v), some (.int (nI c)), some (.int (p_K t N j)), x4] [] (n, K, L, I', J, G) 0 0 := by
          refine zW_ok hj B67_51 51 _ _ _ _ _ b67_51 ?_
          simp only [B67_51, zW, z_wp1, z_ld, z_f0, z_f1, z_f2, z_f3, List.getElem?_cons_zero, List.getElem?_cons_succ, true_and, and_true, Int32.reduceOfInt, z_i10, z_i01, Int32.reduceLT, Int32.reduceLE, Int32.reduceAdd, Int32.reduceSub, z_set, z_set2, z_kil, List.set_cons_zero, List.set_cons_succ, List.take_succ_cons, List.take_zero, List.drop_succ_cons, List.drop_zero, List.reverse_cons, List.reverse_nil, List.nil_append, List.cons_append, List.getD_cons_succ, List.getD_cons_zero, List.getD_nil, List.length_cons, List.length_nil, List.map_cons, List.map_nil, List.sum_cons, List.sum_nil, Nat.reduceAdd, Nat.reduceLeDiff, Value.category, Option.toList, true_or, or_true, z_ua, ↓reduceIte, Nat.reduceEqDiff, eq_self, not_true_eq_false, not_false_eq_true, false_implies, true_implies, Classical.not_not, Nat.le_refl, Nat.zero_le]
          try dsimp only
          by_cases hv : v = -1
          · refine zW_ok hj B67_56 56 _ _ _ _ _ b67_56 ?_
            simp only [B67_56, zW, z_wp1, z_ld, z_f0, z_f1, z_f2, z_f3, List.getElem?_cons_zero, List.getElem?_cons_succ, true_and, and_true, Int32.reduceOfInt, z_i10, z_i01, Int32.reduceLT, Int32.reduceLE, Int32.reduceAdd, Int32.reduceSub, z_set, z_set2, z_kil, List.set_cons_zero, List.set_cons_succ, List.take_succ_cons, List.take_zero, List.drop_succ_cons, List.drop_zero, List.reverse_cons, List.reverse_nil, List.nil_append, List.cons_append, List.getD_cons_succ, List.getD_cons_zero, List.getD_nil, List.length_cons, List.length_nil, List.map_cons, List.map_nil, List.sum_cons, List.sum_nil, Nat.reduceAdd, Nat.reduceLeDiff, Value.category, Option.toList, true_or, or_true, z_ua, ↓reduceIte, Nat.reduceEqDiff, eq_self, not_true_eq_false, not_false_eq_true, false_implies, true_implies, Classical.not_not, Nat.le_refl, Nat.zero_le, hv]
            try dsimp only
            have := go xs I' (by rw [hw0 hv, List.append_nil]) h0 hc hfr
            rw [hv] at this
            exact this
          · refine zW_ok hj B67_56 56 _ _ _ _ _ b67_56 ?_
            simp only [B67_56, zW, z_wp1, z_ld, z_f0, z_f1, z_f2, z_f3, List.getElem?_cons_zero, List.getElem?_cons_succ, true_and, and_true, Int32.reduceOfInt, z_i10, z_i01, Int32.reduceLT, Int32.reduceLE, Int32.reduceAdd, Int32.reduceSub, z_set, z_set2, z_kil, List.set_cons_zero, List.set_cons_succ, List.take_succ_cons, List.take_zero, List.drop_succ_cons, List.drop_zero, List.reverse_cons, List.reverse_nil, List.nil_append, List.cons_append, List.getD_cons_succ, List.getD_cons_zero, List.getD_nil, List.length_cons, List.length_nil, List.map_cons, List.map_nil, List.sum_cons, List.sum_nil, Nat.reduceAdd, Nat.reduceLeDiff, Value.category, Option.toList, true_or, or_true, z_ua, ↓reduceIte, Nat.reduceEqDiff, eq_self, not_true_eq_false, not_false_eq_true, false_implies, true_implies, Classical.not_not, Nat.le_refl, Nat.zero_le, hv, sK60 hS, hG, hK]
            try dsimp only
            refine z_callQ (putw hv) (by omega) (by omega) (by omega) (Nat.le_of_ble_eq_true rfl) ?_
            rintro r h' ⟨rfl, I2, rfl, f2, r2, c2, -⟩
            simp only [zW, z_wp1, z_ld, z_f0, z_f1, z_f2, z_f3, List.getElem?_cons_zero, List.getElem?_cons_succ, true_and, and_true, Int32.reduceOfInt, z_i10, z_i01, Int32.reduceLT, Int32.reduceLE, Int32.reduceAdd, Int32.reduceSub, z_set, z_set2, z_kil, List.set_cons_zero, List.set_cons_succ, List.take_succ_cons, List.take_zero, List.drop_succ_cons, List.drop_zero, List.reverse_cons, List.reverse_nil, List.nil_append, List.cons_append, List.getD_cons_succ, List.getD_cons_zero, List.getD_nil, List.length_cons, List.length_nil, List.map_cons, List.map_nil, List.sum_cons, List.sum_nil, Nat.reduceAdd, Nat.reduceLeDiff, Value.category, Option.toList, true_or, or_true, z_ua, ↓reduceIte, Nat.reduceEqDiff, eq_self, not_true_eq_false, not_false_eq_true, false_implies, true_implies, Classical.not_not, Nat.le_refl, Nat.zero_le]
            try dsimp only
            exact go (xs ++ w) I2 rfl r2 c2 (hfr.tr f2)
        refine zW_ok hj B67_13 13 _ _ _ _ _ b67_13 ?_
        simp only [B67_13, zW, z_wp1, z_ld, z_f0, z_f1, z_f2, z_f3, List.getElem?_cons_zero, List.getElem?_cons_succ, true_and, and_true, Int32.reduceOfInt, z_i10, z_i01, Int32.reduceLT, Int32.reduceLE, Int32.reduceAdd, Int32.reduceSub, z_set, z_set2, z_kil, List.set_cons_zero, List.set_cons_succ, List.take_succ_cons, List.take_zero, List.drop_succ_cons, List.drop_zero, List.reverse_cons, List.reverse_nil, List.nil_append, List.cons_append, List.getD_cons_succ, List.getD_cons_zero, List.getD_nil, List.length_cons, List.length_nil, List.map_cons, List.map_nil, List.sum_cons, List.sum_nil, Nat.reduceAdd, Nat.reduceLeDiff, Value.category, Option.toList, true_or, or_true, z_ua, ↓reduceIte, Nat.reduceEqDiff, eq_self, not_true_eq_false, not_false_eq_true, false_implies, true_implies, Classical.not_not, Nat.le_refl, Nat.zero_le, nle, sK60 hS, sG60_0 hS, sK61 hS, sK61 hS, hkd]
        try dsimp only
        refine z_callD (c68') (by omega) (by omega) (by omega) (Nat.le_of_ble_eq_true rfl) ?_
        try simp only [zW, z_wp1, z_ld, z_f0, z_f1, z_f2, z_f3, List.getElem?_cons_zero, List.getElem?_cons_succ, true_and, and_true, Int32.reduceOfInt, z_i10, z_i01, Int32.reduceLT, Int32.reduceLE, Int32.reduceAdd, Int32.reduceSub, z_set, z_set2, z_kil, List.set_cons_zero, List.set_cons_succ, List.take_succ_cons, List.take_zero, List.drop_succ_cons, List.drop_zero, List.reverse_cons, List.reverse_nil, List.nil_append, List.cons_append, List.getD_cons_succ, List.getD_cons_zero, List.getD_nil, List.length_cons, List.length_nil, List.map_cons, List.map_nil, List.sum_cons, List.sum_nil, Nat.reduceAdd, Nat.reduceLeDiff, Value.category, Option.toList, true_or, or_true, z_ua, ↓reduceIte, Nat.reduceEqDiff, eq_self, not_true_eq_false, not_false_eq_true, false_implies, true_implies, Classical.not_not, Nat.le_refl, Nat.zero_le, sK60 hS, sG60_0 hS, sK61 hS, sK61 hS, hkd]
        try dsimp only
        exact ⟨fun h3 => mid, fun h3 => ⟨fun h4 => absurd hl (fun q => q.elim h3 h4), fun h4 => mid⟩⟩
      · -- a close sign
        have cl : p_K t N j = 5 ∨ p_K t N j = 6 := by
          rcases har with z | z | z | z
          · exact absurd (Or.inl z) hl
          · exact absurd (Or.inr z) hl
          · exact Or.inl z
          · exact Or.inr z
        have e3 : ¬ p_K t N j = 3 := fun q => hl (Or.inl q)
        have e4 : ¬ p_K t N j = 4 := fun q => hl (Or.inr q)
        refine zW_ok hj B67_13 13 _ _ _ _ _ b67_13 ?_
        simp only [B67_13, zW, z_wp1, z_ld, z_f0, z_f1, z_f2, z_f3, List.getElem?_cons_zero, List.getElem?_cons_succ, true_and, and_true, Int32.reduceOfInt, z_i10, z_i01, Int32.reduceLT, Int32.reduceLE, Int32.reduceAdd, Int32.reduceSub, z_set, z_set2, z_kil, List.set_cons_zero, List.set_cons_succ, List.take_succ_cons, List.take_zero, List.drop_succ_cons, List.drop_zero, List.reverse_cons, List.reverse_nil, List.nil_append, List.cons_append, List.getD_cons_succ, List.getD_cons_zero, List.getD_nil, List.length_cons, List.length_nil, List.map_cons, List.map_nil, List.sum_cons, List.sum_nil, Nat.reduceAdd, Nat.reduceLeDiff, Value.category, Option.toList, true_or, or_true, z_ua, ↓reduceIte, Nat.reduceEqDiff, eq_self, not_true_eq_false, not_false_eq_true, false_implies, true_implies, Classical.not_not, Nat.le_refl, Nat.zero_le, nle, sK60 hS, sG60_0 hS, sK61 hS, sK61 hS, hkd]
        try dsimp only
        refine z_callD (c68') (by omega) (by omega) (by omega) (Nat.le_of_ble_eq_true rfl) ?_
        try simp only [zW, z_wp1, z_ld, z_f0, z_f1, z_f2, z_f3, List.getElem?_cons_zero, List.getElem?_cons_succ, true_and, and_true, Int32.reduceOfInt, z_i10, z_i01, Int32.reduceLT, Int32.reduceLE, Int32.reduceAdd, Int32.reduceSub, z_set, z_set2, z_kil, List.set_cons_zero, List.set_cons_succ, List.take_succ_cons, List.take_zero, List.drop_succ_cons, List.drop_zero, List.reverse_cons, List.reverse_nil, List.nil_append, List.cons_append, List.getD_cons_succ, List.getD_cons_zero, List.getD_nil, List.length_cons, List.length_nil, List.map_cons, List.map_nil, List.sum_cons, List.sum_nil, Nat.reduceAdd, Nat.reduceLeDiff, Value.category, Option.toList, true_or, or_true, z_ua, ↓reduceIte, Nat.reduceEqDiff, eq_self, not_true_eq_false, not_false_eq_true, false_implies, true_implies, Classical.not_not, Nat.le_refl, Nat.zero_le, sK60 hS, sG60_0 hS, sK61 hS, sK61 hS, hkd, e3, e4]
        try dsimp only
        refine zW_ok hj B67_55 55 _ _ _ _ _ b67_55 ?_
        simp only [B67_55, zW, z_wp1, z_ld, z_f0, z_f1, z_f2, z_f3, List.getElem?_cons_zero, List.getElem?_cons_succ, true_and, and_true, Int32.reduceOfInt, z_i10, z_i01, Int32.reduceLT, Int32.reduceLE, Int32.reduceAdd, Int32.reduceSub, z_set, z_set2, z_kil, List.set_cons_zero, List.set_cons_succ, List.take_succ_cons, List.take_zero, List.drop_succ_cons, List.drop_zero, List.reverse_cons, List.reverse_nil, List.nil_append, List.cons_append, List.getD_cons_succ, List.getD_cons_zero, List.getD_nil, List.length_cons, List.length_nil, List.map_cons, List.map_nil, List.sum_cons, List.sum_nil, Nat.reduceAdd, Nat.reduceLeDiff, Value.category, Option.toList, true_or, or_true, z_ua, ↓reduceIte, Nat.reduceEqDiff, eq_self, not_true_eq_false, not_false_eq_true, false_implies, true_implies, Classical.not_not, Nat.le_refl, Nat.zero_le]
        try dsimp only
        refine zW_ok hj B67_56 56 _ _ _ _ _ b67_56 ?_
        simp only [B67_56, zW, z_wp1, z_ld, z_f0, z_f1, z_f2, z_f3, List.getElem?_cons_zero, List.getElem?_cons_succ, true_and, and_true, Int32.reduceOfInt, z_i10, z_i01, Int32.reduceLT, Int32.reduceLE, Int32.reduceAdd, Int32.reduceSub, z_set, z_set2, z_kil, List.set_cons_zero, List.set_cons_succ, List.take_succ_cons, List.take_zero, List.drop_succ_cons, List.drop_zero, List.reverse_cons, List.reverse_nil, List.nil_append, List.cons_append, List.getD_cons_succ, List.getD_cons_zero, List.getD_nil, List.length_cons, List.length_nil, List.map_cons, List.map_nil, List.sum_cons, List.sum_nil, Nat.reduceAdd, Nat.reduceLeDiff, Value.category, Option.toList, true_or, or_true, z_ua, ↓reduceIte, Nat.reduceEqDiff, eq_self, not_true_eq_false, not_false_eq_true, false_implies, true_implies, Classical.not_not, Nat.le_refl, Nat.zero_le]
        try dsimp only
        refine zW_ok hj B67_77 77 _ _ _ _ _ b67_77 ?_
        simp only [B67_77, zW, z_wp1, z_ld, z_f0, z_f1, z_f2, z_f3, List.getElem?_cons_zero, List.getElem?_cons_succ, true_and, and_true, Int32.reduceOfInt, z_i10, z_i01, Int32.reduceLT, Int32.reduceLE, Int32.reduceAdd, Int32.reduceSub, z_set, z_set2, z_kil, List.set_cons_zero, List.set_cons_succ, List.take_succ_cons, List.take_zero, List.drop_succ_cons, List.drop_zero, List.reverse_cons, List.reverse_nil, List.nil_append, List.cons_append, List.getD_cons_succ, List.getD_cons_zero, List.getD_nil, List.length_cons, List.length_nil, List.map_cons, List.map_nil, List.sum_cons, List.sum_nil, Nat.reduceAdd, Nat.reduceLeDiff, Value.category, Option.toList, true_or, or_true, z_ua, ↓reduceIte, Nat.reduceEqDiff, eq_self, not_true_eq_false, not_false_eq_true, false_implies, true_implies, Classical.not_not, Nat.le_refl, Nat.zero_le]
        try dsimp only
        refine zW_ok hj B67_86 86 _ _ _ _ _ b67_86 ?_
        simp only [B67_86, zW, z_wp1, z_ld, z_f0, z_f1, z_f2, z_f3, List.getElem?_cons_zero, List.getElem?_cons_succ, true_and, and_true, Int32.reduceOfInt, z_i10, z_i01, Int32.reduceLT, Int32.reduceLE, Int32.reduceAdd, Int32.reduceSub, z_set, z_set2, z_kil, List.set_cons_zero, List.set_cons_succ, List.take_succ_cons, List.take_zero, List.drop_succ_cons, List.drop_zero, List.reverse_cons, List.reverse_nil, List.nil_append, List.cons_append, List.getD_cons_succ, List.getD_cons_zero, List.getD_nil, List.length_cons, List.length_nil, List.map_cons, List.map_nil, List.sum_cons, List.sum_nil, Nat.reduceAdd, Nat.reduceLeDiff, Value.category, Option.toList, true_or, or_true, z_ua, ↓reduceIte, Nat.reduceEqDiff, eq_self, not_true_eq_false, not_false_eq_true, false_implies, true_implies, Classical.not_not, Nat.le_refl, Nat.zero_le]
        try dsimp only
        refine tail v w xs I' 0 k1' (k2' + 1) i' (by omega) (by omega) hw (by omega) (fun _ => hlen) (by omega) (fun _ => hi') (by omega) h0 hc hfr (fun r I3 f3 e5 => hQ r I3 f3 ?_)
        rcases cl with z | z
        · rw [r_su_5 z]
          rw [if_neg (by rw [z]; decide), if_pos z] at e5
          exact e5
        · rw [r_su_6 z]
          rw [if_pos z] at e5
          exact e5
    · rw [z_b0 har] at c68'
      rw [r_su_e har] at hQ
      have fin : zV X 140 [some (.ref 60), some (.int v), some (.int (nI c)), x3, x4] [] (n, K, L, I', J, G) 0 0 := by
        by_cases hv : v = -1
        · refine zW_ok hj B67_140 140 _ _ _ _ _ b67_140 ?_
          simp only [B67_140, zW, z_wp1, z_ld, z_f0, z_f1, z_f2, z_f3, List.getElem?_cons_zero, List.getElem?_cons_succ, true_and, and_true, Int32.reduceOfInt, z_i10, z_i01, Int32.reduceLT, Int32.reduceLE, Int32.reduceAdd, Int32.reduceSub, z_set, z_set2, z_kil, List.set_cons_zero, List.set_cons_succ, List.take_succ_cons, List.take_zero, List.drop_succ_cons, List.drop_zero, List.reverse_cons, List.reverse_nil, List.nil_append, List.cons_append, List.getD_cons_succ, List.getD_cons_zero, List.getD_nil, List.length_cons, List.length_nil, List.map_cons, List.map_nil, List.sum_cons, List.sum_nil, Nat.reduceAdd, Nat.reduceLeDiff, Value.category, Option.toList, true_or, or_true, z_ua, ↓reduceIte, Nat.reduceEqDiff, eq_self, not_true_eq_false, not_false_eq_true, false_implies, true_implies, Classical.not_not, Nat.le_refl, Nat.zero_le, hv]
          try dsimp only
          refine zW_ok hj B67_154 154 _ _ _ _ _ b67_154 ?_
          simp only [B67_154, zW, z_wp1, z_ld, z_f0, z_f1, z_f2, z_f3, List.getElem?_cons_zero, List.getElem?_cons_succ, true_and, and_true, Int32.reduceOfInt, z_i10, z_i01, Int32.reduceLT, Int32.reduceLE, Int32.reduceAdd, Int32.reduceSub, z_set, z_set2, z_kil, List.set_cons_zero, List.set_cons_succ, List.take_succ_cons, List.take_zero, List.drop_succ_cons, List.drop_zero, List.reverse_cons, List.reverse_nil, List.nil_append, List.cons_append, List.getD_cons_succ, List.getD_cons_zero, List.getD_nil, List.length_cons, List.length_nil, List.map_cons, List.map_nil, List.sum_cons, List.sum_nil, Nat.reduceAdd, Nat.reduceLeDiff, Value.category, Option.toList, true_or, or_true, z_ua, ↓reduceIte, Nat.reduceEqDiff, eq_self, not_true_eq_false, not_false_eq_true, false_implies, true_implies, Classical.not_not, Nat.le_refl, Nat.zero_le]
          try dsimp only
          refine hQ _ _ hfr ⟨rfl, [], by rw [List.append_nil]; exact hr, by rw [hw0 hv]; exact q_ok.nil, ?_⟩
          show 0 + i' ≤ j
          omega
        · refine zW_ok hj B67_140 140 _ _ _ _ _ b67_140 ?_
          simp only [B67_140, zW, z_wp1, z_ld, z_f0, z_f1, z_f2, z_f3, List.getElem?_cons_zero, List.getElem?_cons_succ, true_and, and_true, Int32.reduceOfInt, z_i10, z_i01, Int32.reduceLT, Int32.reduceLE, Int32.reduceAdd, Int32.reduceSub, z_set, z_set2, z_kil, List.set_cons_zero, List.set_cons_succ, List.take_succ_cons, List.take_zero, List.drop_succ_cons, List.drop_zero, List.reverse_cons, List.reverse_nil, List.nil_append, List.cons_append, List.getD_cons_succ, List.getD_cons_zero, List.getD_nil, List.length_cons, List.length_nil, List.map_cons, List.map_nil, List.sum_cons, List.sum_nil, Nat.reduceAdd, Nat.reduceLeDiff, Value.category, Option.toList, true_or, or_true, z_ua, ↓reduceIte, Nat.reduceEqDiff, eq_self, not_true_eq_false, not_false_eq_true, false_implies, true_implies, Classical.not_not, Nat.le_refl, Nat.zero_le, hv, sK60 hS, hG, hK]
          try dsimp only
          refine z_callQ (putw hv) (by omega) (by omega) (by omega) (Nat.le_of_ble_eq_true rfl) ?_
          rintro r h' ⟨rfl, I2, rfl, f2, r2, c2, -⟩
          simp only [zW, z_wp1, z_ld, z_f0, z_f1, z_f2, z_f3, List.getElem?_cons_zero, List.getElem?_cons_succ, true_and, and_true, Int32.reduceOfInt, z_i10, z_i01, Int32.reduceLT, Int32.reduceLE, Int32.reduceAdd, Int32.reduceSub, z_set, z_set2, z_kil, List.set_cons_zero, List.set_cons_succ, List.take_succ_cons, List.take_zero, List.drop_succ_cons, List.drop_zero, List.reverse_cons, List.reverse_nil, List.nil_append, List.cons_append, List.getD_cons_succ, List.getD_cons_zero, List.getD_nil, List.length_cons, List.length_nil, List.map_cons, List.map_nil, List.sum_cons, List.sum_nil, Nat.reduceAdd, Nat.reduceLeDiff, Value.category, Option.toList, true_or, or_true, z_ua, ↓reduceIte, Nat.reduceEqDiff, eq_self, not_true_eq_false, not_false_eq_true, false_implies, true_implies, Classical.not_not, Nat.le_refl, Nat.zero_le]
          try dsimp only
          refine zW_ok hj B67_154 154 _ _ _ _ _ b67_154 ?_
          simp only [B67_154, zW, z_wp1, z_ld, z_f0, z_f1, z_f2, z_f3, List.getElem?_cons_zero, List.getElem?_cons_succ, true_and, and_true, Int32.reduceOfInt, z_i10, z_i01, Int32.reduceLT, Int32.reduceLE, Int32.reduceAdd, Int32.reduceSub, z_set, z_set2, z_kil, List.set_cons_zero, List.set_cons_succ, List.take_succ_cons, List.take_zero, List.drop_succ_cons, List.drop_zero, List.reverse_cons, List.reverse_nil, List.nil_append, List.cons_append, List.getD_cons_succ, List.getD_cons_zero, List.getD_nil, List.length_cons, List.length_nil, List.map_cons, List.map_nil, List.sum_cons, List.sum_nil, Nat.reduceAdd, Nat.reduceLeDiff, Value.category, Option.toList, true_or, or_true, z_ua, ↓reduceIte, Nat.reduceEqDiff, eq_self, not_true_eq_false, not_false_eq_true, false_implies, true_implies, Classical.not_not, Nat.le_refl, Nat.zero_le]
          try dsimp only
          refine hQ _ _ (hfr.tr f2) ⟨rfl, w, ⟨r2, c2, by rw [List.length_append]; exact hlen⟩, hw.ok, ?_⟩
          show w.length + i' ≤ j
          omega
      refine zW_ok hj B67_13 13 _ _ _ _ _ b67_13 ?_
      simp only [B67_13, zW, z_wp1, z_ld, z_f0, z_f1, z_f2, z_f3, List.getElem?_cons_zero, List.getElem?_cons_succ, true_and, and_true, Int32.reduceOfInt, z_i10, z_i01, Int32.reduceLT, Int32.reduceLE, Int32.reduceAdd, Int32.reduceSub, z_set, z_set2, z_kil, List.set_cons_zero, List.set_cons_succ, List.take_succ_cons, List.take_zero, List.drop_succ_cons, List.drop_zero, List.reverse_cons, List.reverse_nil, List.nil_append, List.cons_append, List.getD_cons_succ, List.getD_cons_zero, List.getD_nil, List.length_cons, List.length_nil, List.map_cons, List.map_nil, List.sum_cons, List.sum_nil, Nat.reduceAdd, Nat.reduceLeDiff, Value.category, Option.toList, true_or, or_true, z_ua, ↓reduceIte, Nat.reduceEqDiff, eq_self, not_true_eq_false, not_false_eq_true, false_implies, true_implies, Classical.not_not, Nat.le_refl, Nat.zero_le, nle, sK60 hS, sG60_0 hS, sK61 hS, sK61 hS, hkd]
      try dsimp only
      refine z_callD (c68') (by omega) (by omega) (by omega) (Nat.le_of_ble_eq_true rfl) ?_
      try simp only [zW, z_wp1, z_ld, z_f0, z_f1, z_f2, z_f3, List.getElem?_cons_zero, List.getElem?_cons_succ, true_and, and_true, Int32.reduceOfInt, z_i10, z_i01, Int32.reduceLT, Int32.reduceLE, Int32.reduceAdd, Int32.reduceSub, z_set, z_set2, z_kil, List.set_cons_zero, List.set_cons_succ, List.take_succ_cons, List.take_zero, List.drop_succ_cons, List.drop_zero, List.reverse_cons, List.reverse_nil, List.nil_append, List.cons_append, List.getD_cons_succ, List.getD_cons_zero, List.getD_nil, List.length_cons, List.length_nil, List.map_cons, List.map_nil, List.sum_cons, List.sum_nil, Nat.reduceAdd, Nat.reduceLeDiff, Value.category, Option.toList, true_or, or_true, z_ua, ↓reduceIte, Nat.reduceEqDiff, eq_self, not_true_eq_false, not_false_eq_true, false_implies, true_implies, Classical.not_not, Nat.le_refl, Nat.zero_le, sK60 hS, sG60_0 hS, sK61 hS, sK61 hS]
      try dsimp only
      exact fin
/-- readSum -/
theorem c67 (he : x_en K L G t N cd) (hr : x_rd I t N M cd i xs) : z_Ctr l 2 67 [.ref 60] (n, K, L, I, J, G) 0 0 (x_rp n K L I J G t N M cd i xs (r_sm (p_K t N) (p_A t N) i)) := by
  obtain ⟨hS, h2, hG, hK, hch⟩ := id he
  refine z_ctr (by decide) (by decide +kernel) (Nat.le_of_ble_eq_true rfl) (by decide +kernel) (fun X hl hj hd hm hs hsc hQ => ?_)
  show zV X 0 [some (.ref 60), none, none, none, none] [] _ 0 0
  subst hl
  refine zW_ok hj B67_0 0 _ _ _ _ _ b67_0 ?_
  simp only [B67_0, zW, z_wp1, z_ld, z_f0, z_f1, z_f2, z_f3, List.getElem?_cons_zero, List.getElem?_cons_succ, true_and, and_true, Int32.reduceOfInt, z_i10, z_i01, Int32.reduceLT, Int32.reduceLE, Int32.reduceAdd, Int32.reduceSub, z_set, z_set2, z_kil, List.set_cons_zero, List.set_cons_succ, List.take_succ_cons, List.take_zero, List.drop_succ_cons, List.drop_zero, List.reverse_cons, List.reverse_nil, List.nil_append, List.cons_append, List.getD_cons_succ, List.getD_cons_zero, List.getD_nil, List.length_cons, List.length_nil, List.map_cons, List.map_nil, List.sum_cons, List.sum_nil, Nat.reduceAdd, Nat.reduceLeDiff, Value.category, Option.toList, true_or, or_true, z_ua, ↓reduceIte, Nat.reduceEqDiff, eq_self, not_true_eq_false, not_false_eq_true, false_implies, true_implies, Classical.not_not, Nat.le_refl, Nat.zero_le, sK60 hS]
  try dsimp only
  refine z_callQ (c70 (J := J) he hr) (by omega) (by omega) (by omega) (Nat.le_of_ble_eq_true rfl) ?_
  rintro r h' ⟨I2, rfl, f2, e2⟩
  rcases x_re_q e2 with ⟨e, hR, rfl, q1, q2⟩ | ⟨y, hR, rfl, zs, rd2, hz, hl2⟩
  · simp only [zW, z_wp1, z_ld, z_f0, z_f1, z_f2, z_f3, List.getElem?_cons_zero, List.getElem?_cons_succ, true_and, and_true, Int32.reduceOfInt, z_i10, z_i01, Int32.reduceLT, Int32.reduceLE, Int32.reduceAdd, Int32.reduceSub, z_set, z_set2, z_kil, List.set_cons_zero, List.set_cons_succ, List.take_succ_cons, List.take_zero, List.drop_succ_cons, List.drop_zero, List.reverse_cons, List.reverse_nil, List.nil_append, List.cons_append, List.getD_cons_succ, List.getD_cons_zero, List.getD_nil, List.length_cons, List.length_nil, List.map_cons, List.map_nil, List.sum_cons, List.sum_nil, Nat.reduceAdd, Nat.reduceLeDiff, Value.category, Option.toList, true_or, or_true, z_ua, ↓reduceIte, Nat.reduceEqDiff, eq_self, not_true_eq_false, not_false_eq_true, false_implies, true_implies, Classical.not_not, Nat.le_refl, Nat.zero_le]
    try dsimp only
    refine hQ _ _ ⟨I2, rfl, f2, ?_⟩
    rw [r_sm, r_pr, hR, r_bd_r, r_bd_r]
    exact ⟨rfl, q1, q2⟩
  · have hy1 : y.1 = i + 1 := by
      unfold r_un at hR
      split at hR
      · cases hR; rfl
      · cases hR
    simp only [zW, z_wp1, z_ld, z_f0, z_f1, z_f2, z_f3, List.getElem?_cons_zero, List.getElem?_cons_succ, true_and, and_true, Int32.reduceOfInt, z_i10, z_i01, Int32.reduceLT, Int32.reduceLE, Int32.reduceAdd, Int32.reduceSub, z_set, z_set2, z_kil, List.set_cons_zero, List.set_cons_succ, List.take_succ_cons, List.take_zero, List.drop_succ_cons, List.drop_zero, List.reverse_cons, List.reverse_nil, List.nil_append, List.cons_append, List.getD_cons_succ, List.getD_cons_zero, List.getD_nil, List.length_cons, List.length_nil, List.map_cons, List.map_nil, List.sum_cons, List.sum_nil, Nat.reduceAdd, Nat.reduceLeDiff, Value.category, Option.toList, true_or, or_true, z_ua, ↓reduceIte, Nat.reduceEqDiff, eq_self, not_true_eq_false, not_false_eq_true, false_implies, true_implies, Classical.not_not, Nat.le_refl, Nat.zero_le]
    try dsimp only
    refine zW_ok hj B67_9 9 _ _ _ _ _ b67_9 ?_
    simp only [B67_9, zW, z_wp1, z_ld, z_f0, z_f1, z_f2, z_f3, List.getElem?_cons_zero, List.getElem?_cons_succ, true_and, and_true, Int32.reduceOfInt, z_i10, z_i01, Int32.reduceLT, Int32.reduceLE, Int32.reduceAdd, Int32.reduceSub, z_set, z_set2, z_kil, List.set_cons_zero, List.set_cons_succ, List.take_succ_cons, List.take_zero, List.drop_succ_cons, List.drop_zero, List.reverse_cons, List.reverse_nil, List.nil_append, List.cons_append, List.getD_cons_succ, List.getD_cons_zero, List.getD_nil, List.length_cons, List.length_nil, List.map_cons, List.map_nil, List.sum_cons, List.sum_nil, Nat.reduceAdd, Nat.reduceLeDiff, Value.category, Option.toList, true_or, or_true, z_ua, ↓reduceIte, Nat.reduceEqDiff, eq_self, not_true_eq_false, not_false_eq_true, false_implies, true_implies, Classical.not_not, Nat.le_refl, Nat.zero_le]
    try dsimp only
    refine c67_loop (I := I) he hj hd hm hs 802 y.1 0 802 802 y.1 (xs ++ zs) [] (-1) I2 none none (by omega) (by omega) (by omega) (by omega) (Or.inl ⟨rfl, rfl⟩) rd2 (by rw [List.length_nil]; exact rd2.2.2) (by simp) f2 (fun r I3 f3 e3 => hQ _ _ ⟨I3, rfl, f3, ?_⟩)
    rw [r_sm, r_pr, r_bd_as, hR]
    refine x_re_bd hz hl2 ?_
    have ee : r_su (p_K t N) (p_A t N) [] 802 802 y.1 = r_bd (r_pl (p_K t N) (p_A t N) 802 y.1) (r_sl (p_K t N) (p_A t N) 802) := by
      rw [r_su]
      congr 1
      funext i
      rw [p_fl_0, r_bd_0]
    rw [ee] at e3
    exact e3
end XRD3
