/-! THE LAW'S LOOP, from its head; the law from its entry -/
theorem w_cmp {Ls i : Nat} (hL : Ls ≤ 3584) (hi : i ≤ Ls) (h : ¬ i + 7 ≤ Ls) : Int32.ofNat Ls - 7 < nI i := by
  show nI Ls - 7 < nI i
  by_cases h7 : 7 ≤ Ls
  · rw [show (7 : Int32) = nI 7 from rfl, nI_sub' h7]
    exact nI_lt (by omega) (by omega)
  · refine Int32.lt_of_lt_of_le (show nI Ls - 7 < 0 from ?_) (nI_pos' (by omega))
    have : Ls = 0 ∨ Ls = 1 ∨ Ls = 2 ∨ Ls = 3 ∨ Ls = 4 ∨ Ls = 5 ∨ Ls = 6 := by omega
    rcases this with rfl | rfl | rfl | rfl | rfl | rfl | rfl <;> decide
theorem w_cmp' {Ls i : Nat} (hL : Ls ≤ 3584) (h : i + 7 ≤ Ls) : ¬ Int32.ofNat Ls - 7 < nI i := by
  show ¬ nI Ls - 7 < nI i
  rw [show (7 : Int32) = nI 7 from rfl, nI_sub' (by omega)]
  exact nI_nlt (by omega) (by omega)
section LOOP2
variable {X : zX} {Ls : Nat} {xs : Nat → Int32}
theorem w_exit (hj : X.2.1 = 258) (hsc : X.2.2.2.2.2.1 = some (Ls, xs)) (hLs : Ls ≤ 3584) (hQ : ∀ h, X.2.2.2.2.2.2 (some (.int 1)) h) {i : Nat} {h : zH} {uc us : Nat} (hi : i ≤ Ls) (hn : ¬ i + 7 ≤ Ls) : zV X 18 [some (.ref 0), some (.ref 5), some (.ref 71), some (.int (nI i))] [] h uc us := by
  have hc := w_cmp hLs hi hn
  refine zW_ok hj B258_18 18 _ _ _ _ _ b258_18 ?_
  simp only [B258_18, zW, z_wp1, z_ld, z_f0, z_f1, z_f2, z_f3, List.getElem?_cons_zero, List.getElem?_cons_succ, true_and, and_true, Int32.reduceOfInt, z_i10, z_i01, Int32.reduceLT, Int32.reduceLE, Int32.reduceAdd, Int32.reduceSub, z_set, z_set2, z_kil, List.set_cons_zero, List.set_cons_succ, List.take_succ_cons, List.take_zero, List.drop_succ_cons, List.drop_zero, List.reverse_cons, List.reverse_nil, List.nil_append, List.cons_append, List.getD_cons_succ, List.getD_cons_zero, List.getD_nil, List.length_cons, List.length_nil, List.map_cons, List.map_nil, List.sum_cons, List.sum_nil, Nat.reduceAdd, Nat.reduceLeDiff, Value.category, Option.toList, true_or, or_true, z_ua, ↓reduceIte, Nat.reduceEqDiff, eq_self, not_true_eq_false, not_false_eq_true, false_implies, true_implies, Classical.not_not, Nat.le_refl, Nat.zero_le, hsc, Option.some.injEq, exists_eq_left']
  try dsimp only
  refine ⟨fun _ => ?_, fun q => absurd hc q⟩
  refine zW_ok hj B258_1358 1358 _ _ _ _ _ b258_1358 ?_
  simp only [B258_1358, zW, z_wp1, z_ld, z_f0, z_f1, z_f2, z_f3, List.getElem?_cons_zero, List.getElem?_cons_succ, true_and, and_true, Int32.reduceOfInt, z_i10, z_i01, Int32.reduceLT, Int32.reduceLE, Int32.reduceAdd, Int32.reduceSub, z_set, z_set2, z_kil, List.set_cons_zero, List.set_cons_succ, List.take_succ_cons, List.take_zero, List.drop_succ_cons, List.drop_zero, List.reverse_cons, List.reverse_nil, List.nil_append, List.cons_append, List.getD_cons_succ, List.getD_cons_zero, List.getD_nil, List.length_cons, List.length_nil, List.map_cons, List.map_nil, List.sum_cons, List.sum_nil, Nat.reduceAdd, Nat.reduceLeDiff, Value.category, Option.toList, true_or, or_true, z_ua, ↓reduceIte, Nat.reduceEqDiff, eq_self, not_true_eq_false, not_false_eq_true, false_implies, true_implies, Classical.not_not, Nat.le_refl, Nat.zero_le]
  try dsimp only
  exact hQ _
theorem lI.b {k u : Nat} {h : zH} (H : lI k u h) : u ≤ 327680 ∧ h.2.1 5 = 10 := by
  obtain ⟨n, K, L, I, J, G, c, F, N, tr, cd, D, ch, rfl, hx, hu⟩ := H
  exact ⟨Nat.le_trans hu (x_u_le hx.1.2.2.2.1), sK5 hx.S⟩
theorem lI.up {k u : Nat} {h : zH} (hk : k < 600) (H : lI k u h) : lI (k + 1) u h := by
  obtain ⟨n, K, L, I, J, G, c, F, N, tr, cd, D, ch, rfl, hx, hu⟩ := H
  exact ⟨n, K, L, I, J, G, c, F, N, tr, cd, D, ch, rfl, hx.up hk, hu⟩
set_option maxHeartbeats 4000000 in
theorem w_step (hj : X.2.1 = 258) (hd : X.2.2.1 = 40) (hm : X.2.2.2.1 = 274376) (hs : X.2.2.2.2.1 = 8279122) (hsc : X.2.2.2.2.2.1 = some (Ls, xs)) (hLs : Ls ≤ 3584) {k i : Nat} {h : zH} {uc us u : Nat} (hk : k < 600) (hi : i + 7 ≤ Ls) (H : lI k u h) (huc : uc ≤ 20000) (hus : us ≤ 1000000) (kk : ∀ h' mc ms, mc ≤ 4 → ms ≤ 400000 → lI (k + 1) (u + ms) h' → zV X 1352 [some (.ref 0), some (.ref 5), some (.ref 71), some (.int (nI i))] [] h' (uc + mc) (us + ms)) : zV X 18 [some (.ref 0), some (.ref 5), some (.ref 71), some (.int (nI i))] [] h uc us := by
  have hc := w_cmp' hLs hi
  have v0 : vp_in (nI i) Ls := vp_in_nI (by omega) (by omega)
  refine zW_ok hj B258_18 18 _ _ _ _ _ b258_18 ?_
  simp only [B258_18, zW, z_wp1, z_ld, z_f0, z_f1, z_f2, z_f3, List.getElem?_cons_zero, List.getElem?_cons_succ, true_and, and_true, Int32.reduceOfInt, z_i10, z_i01, Int32.reduceLT, Int32.reduceLE, Int32.reduceAdd, Int32.reduceSub, z_set, z_set2, z_kil, List.set_cons_zero, List.set_cons_succ, List.take_succ_cons, List.take_zero, List.drop_succ_cons, List.drop_zero, List.reverse_cons, List.reverse_nil, List.nil_append, List.cons_append, List.getD_cons_succ, List.getD_cons_zero, List.getD_nil, List.length_cons, List.length_nil, List.map_cons, List.map_nil, List.sum_cons, List.sum_nil, Nat.reduceAdd, Nat.reduceLeDiff, Value.category, Option.toList, true_or, or_true, z_ua, ↓reduceIte, Nat.reduceEqDiff, eq_self, not_true_eq_false, not_false_eq_true, false_implies, true_implies, Classical.not_not, Nat.le_refl, Nat.zero_le, hsc, Option.some.injEq, exists_eq_left', v0]
  try dsimp only
  refine ⟨fun q => absurd q hc, fun _ => ?_⟩
  unfold z_tsw
  refine ⟨fun _ => ?_, fun q1 q2 => ?_⟩
  · exact kk h 0 0 (by omega) (by omega) (H.up hk)
  · have hK := H.b.2
    obtain ⟨n, K, L, I, J, G, c, F, N, tr, cd, D, ch, rfl, hx, hu⟩ := H
    generalize (xs (nI i).toNatClampNeg &&& 63) = x at q1 q2 ⊢
    obtain ⟨q, hq⟩ : ∃ q, q = (x.toInt - 0).toNat := ⟨_, rfl⟩
    rw [← hq]
    have hq32 : q ≤ 32 := by omega
    clear hq q1 q2
    have hcs : q = 0 ∨ q = 1 ∨ q = 2 ∨ q = 3 ∨ q = 4 ∨ q = 5 ∨ q = 6 ∨ q = 7 ∨ q = 8 ∨ q = 9 ∨ q = 10 ∨ q = 11 ∨ q = 12 ∨ q = 13 ∨ q = 14 ∨ q = 15 ∨ q = 16 ∨ q = 17 ∨ q = 18 ∨ q = 19 ∨ q = 20 ∨ q = 21 ∨ q = 22 ∨ q = 23 ∨ q = 24 ∨ q = 25 ∨ q = 26 ∨ q = 27 ∨ q = 28 ∨ q = 29 ∨ q = 30 ∨ q = 31 ∨ q = 32 := by omega
    rcases hcs with rfl | rfl | rfl | rfl | rfl | rfl | rfl | rfl | rfl | rfl | rfl | rfl | rfl | rfl | rfl | rfl | rfl | rfl | rfl | rfl | rfl | rfl | rfl | rfl | rfl | rfl | rfl | rfl | rfl | rfl | rfl | rfl | rfl
    · exact ⟨180, rfl, w180 hj hd (by omega) (by omega) hsc hLs hi hK (l116 hx hk hu) kk⟩
    · exact ⟨193, rfl, w193 hj hd (by omega) (by omega) hsc hLs hi hK (l117 hx hk hu _ _ _ _ _) kk⟩
    · exact ⟨256, rfl, w256 hj hd (by omega) (by omega) hsc hLs hi hK (l118 hx hk hu _ _) kk⟩
    · exact ⟨289, rfl, w289 hj hd (by omega) (by omega) hsc hLs hi hK (l119 hx hk hu _ _) kk⟩
    · exact ⟨322, rfl, w322 hj hd (by omega) (by omega) hsc hLs hi hK (l120 hx hk hu _ _ _ _ _) kk⟩
    · exact ⟨385, rfl, w385 hj hd (by omega) (by omega) hsc hLs hi hK (l121 hx hk hu _) kk⟩
    · exact ⟨408, rfl, w408 hj hd (by omega) (by omega) hsc hLs hi hK (l122 hx hk hu) kk⟩
    · exact ⟨421, rfl, w421 hj hd (by omega) (by omega) hsc hLs hi hK (l123 hx hk hu _) kk⟩
    · exact ⟨444, rfl, w444 hj hd (by omega) (by omega) hsc hLs hi hK (l124 hx hk hu _ _) kk⟩
    · exact ⟨477, rfl, w477 hj hd (by omega) (by omega) hsc hLs hi hK (l125 hx hk hu _) kk⟩
    · exact ⟨500, rfl, w500 hj hd (by omega) (by omega) hsc hLs hi hK (l126 hx hk hu _ _) kk⟩
    · exact ⟨533, rfl, w533 hj hd (by omega) (by omega) hsc hLs hi hK (l127 hx hk hu _ _) kk⟩
    · exact ⟨566, rfl, w566 hj hd (by omega) (by omega) hsc hLs hi hK (l128 hx hk hu _ _) kk⟩
    · exact ⟨599, rfl, w599 hj hd (by omega) (by omega) hsc hLs hi hK (l129 hx hk hu _) kk⟩
    · exact ⟨622, rfl, w622 hj hd (by omega) (by omega) hsc hLs hi hK (l130 hx hk hu _ _) kk⟩
    · exact ⟨655, rfl, w655 hj hd (by omega) (by omega) hsc hLs hi hK (l131 hx hk hu _ _) kk⟩
    · exact ⟨688, rfl, w688 hj hd (by omega) (by omega) hsc hLs hi hK (l132 hx hk hu _) kk⟩
    · exact ⟨711, rfl, w711 hj hd (by omega) (by omega) hsc hLs hi hK (l133 hx hk hu _ _ _) kk⟩
    · exact ⟨754, rfl, w754 hj hd (by omega) (by omega) hsc hLs hi hK (l134 hx hk hu _ _ _) kk⟩
    · exact ⟨797, rfl, w797 hj hd (by omega) (by omega) hsc hLs hi hK (l135 hx hk hu _ _ _) kk⟩
    · exact ⟨840, rfl, w840 hj hd (by omega) (by omega) hsc hLs hi hK (l136 hx hk hu _) kk⟩
    · exact ⟨863, rfl, w863 hj hd (by omega) (by omega) hsc hLs hi hK (l137 hx hk hu _) kk⟩
    · exact ⟨886, rfl, w886 hj hd (by omega) (by omega) hsc hLs hi hK (l138 hx hk hu) kk⟩
    · exact ⟨899, rfl, w899 hj hd (by omega) (by omega) hsc hLs hi hK (l139 hx hk hu _) kk⟩
    · exact ⟨922, rfl, w922 hj hd (by omega) (by omega) hsc hLs hi hK (l140 hx hk hu _ _) kk⟩
    · exact ⟨955, rfl, w955 hj hd (by omega) (by omega) hsc hLs hi hK (l141 hx hk hu _ _ _) kk⟩
    · exact ⟨999, rfl, w999 hj hd (by omega) (by omega) hsc hLs hi hK (fun k => l142 hx hk hu _ _ _ k _) kk⟩
    · exact ⟨1094, rfl, w1094 hj hd (by omega) (by omega) hsc hLs hi hK (l143 hx hk hu _ _ _ _) kk⟩
    · exact ⟨1147, rfl, w1147 hj hd (by omega) (by omega) hsc hLs hi hK (l144 hx hk hu _ _) kk⟩
    · exact ⟨1180, rfl, w1180 hj hd (by omega) (by omega) hsc hLs hi hK (l145 hx hk hu _ _) kk⟩
    · exact ⟨1213, rfl, w1213 hj hd (by omega) (by omega) hsc hLs hi hK (l146 hx hk hu _ _ _) kk⟩
    · exact ⟨1256, rfl, w1256 hj hd (by omega) (by omega) hsc hLs hi hK (l147 hx hk hu _ _ _) kk⟩
    · exact ⟨1299, rfl, w1299 hj hd (by omega) (by omega) hsc hLs hi hK (l148 hx hk hu _ _ _ _) kk⟩
theorem w_loop (hj : X.2.1 = 258) (hd : X.2.2.1 = 40) (hm : X.2.2.2.1 = 274376) (hs : X.2.2.2.2.1 = 8279122) (hsc : X.2.2.2.2.2.1 = some (Ls, xs)) (hLs : Ls ≤ 3584) (hQ : ∀ h, X.2.2.2.2.2.2 (some (.int 1)) h) : ∀ (f k : Nat) (h : zH) (uc us u : Nat), Ls < 7 * (k + f + 1) → 7 * k ≤ Ls → lI k u h → uc ≤ 98 + 4 * k → us ≤ 288909 + u → zV X 18 [some (.ref 0), some (.ref 5), some (.ref 71), some (.int (nI (7 * k)))] [] h uc us
  | 0, k, h, uc, us, u, hf, hk, H, huc, hus => w_exit hj hsc hLs hQ hk (by omega)
  | f + 1, k, h, uc, us, u, hf, hk, H, huc, hus => by
    by_cases hi : 7 * k + 7 ≤ Ls
    · have hu := H.b.1
      refine w_step hj hd hm hs hsc hLs (show k < 600 by omega) hi H (by omega) (by omega) (fun h' mc ms h1 h2 h3 => ?_)
      have e7 : nI (7 * k) + 7 = nI (7 * (k + 1)) := by rw [show (7 : Int32) = nI 7 from rfl, nI_add]; congr 1
      have := w_loop hj hd hm hs hsc hLs hQ f (k + 1) h' (uc + mc) (us + ms) (u + ms) (by omega) (by omega) h3 (by omega) (by omega)
      refine zW_ok hj B258_1352 1352 _ _ _ _ _ b258_1352 ?_
      simp only [B258_1352, zW, z_wp1, z_ld, z_f0, z_f1, z_f2, z_f3, List.getElem?_cons_zero, List.getElem?_cons_succ, true_and, and_true, Int32.reduceOfInt, z_i10, z_i01, Int32.reduceLT, Int32.reduceLE, Int32.reduceAdd, Int32.reduceSub, z_set, z_set2, z_kil, List.set_cons_zero, List.set_cons_succ, List.take_succ_cons, List.take_zero, List.drop_succ_cons, List.drop_zero, List.reverse_cons, List.reverse_nil, List.nil_append, List.cons_append, List.getD_cons_succ, List.getD_cons_zero, List.getD_nil, List.length_cons, List.length_nil, List.map_cons, List.map_nil, List.sum_cons, List.sum_nil, Nat.reduceAdd, Nat.reduceLeDiff, Value.category, Option.toList, true_or, or_true, z_ua, ↓reduceIte, Nat.reduceEqDiff, eq_self, not_true_eq_false, not_false_eq_true, false_implies, true_implies, Classical.not_not, Nat.le_refl, Nat.zero_le, e7]
      try dsimp only
      exact this
    · exact w_exit hj hsc hLs hQ hk hi
set_option maxHeartbeats 4000000 in
theorem w_all (hj : X.2.1 = 258) (hd : X.2.2.1 = 40) (hm : X.2.2.2.1 = 274376) (hs : X.2.2.2.2.1 = 8279122) (hsc : X.2.2.2.2.2.1 = some (Ls, xs)) (hLs : Ls ≤ 3584) (hQ : ∀ h, X.2.2.2.2.2.2 (some (.int 1)) h) {h0 : zH} (H0 : e_H ([], [], [], []) h0) : zV X 0 [some (.ref 0), none, none, none] [] h0 0 0 := by
  have n0 : h0.1 = 5 := H0.1
  have g0 : e_H e_t0 (z_hN h0 10 0) := H0.ad (by decide) 10 0
  refine zW_ok hj B258_0 0 _ _ _ _ _ b258_0 ?_
  simp only [B258_0, zW, z_wp1, z_ld, z_f0, z_f1, z_f2, z_f3, List.getElem?_cons_zero, List.getElem?_cons_succ, true_and, and_true, Int32.reduceOfInt, z_i10, z_i01, Int32.reduceLT, Int32.reduceLE, Int32.reduceAdd, Int32.reduceSub, z_set, z_set2, z_kil, List.set_cons_zero, List.set_cons_succ, List.take_succ_cons, List.take_zero, List.drop_succ_cons, List.drop_zero, List.reverse_cons, List.reverse_nil, List.nil_append, List.cons_append, List.getD_cons_succ, List.getD_cons_zero, List.getD_nil, List.length_cons, List.length_nil, List.map_cons, List.map_nil, List.sum_cons, List.sum_nil, Nat.reduceAdd, Nat.reduceLeDiff, Value.category, Option.toList, true_or, or_true, z_ua, ↓reduceIte, Nat.reduceEqDiff, eq_self, not_true_eq_false, not_false_eq_true, false_implies, true_implies, Classical.not_not, Nat.le_refl, Nat.zero_le, n0, hm, hs]
  try dsimp only
  refine z_callA (e_c_ok (l := X.1) 4 115 5 e_t0 e_t1 e_r1 _ g0) (by omega) (by rw [hm]; decide) (by rw [hs]; decide) (Nat.le_of_ble_eq_true rfl) ?_
  rintro r h1 ⟨rfl, H1⟩
  have n1 : h1.1 = 71 := H1.1.trans (by rw [e_f1.2])
  have g1 : e_H (e_ad e_t1 11 0) (z_hN h1 11 0) := H1.ad (by rw [e_f1.2]; exact e_f1.1) 11 0
  simp only [zW, z_wp1, z_ld, z_f0, z_f1, z_f2, z_f3, List.getElem?_cons_zero, List.getElem?_cons_succ, true_and, and_true, Int32.reduceOfInt, z_i10, z_i01, Int32.reduceLT, Int32.reduceLE, Int32.reduceAdd, Int32.reduceSub, z_set, z_set2, z_kil, List.set_cons_zero, List.set_cons_succ, List.take_succ_cons, List.take_zero, List.drop_succ_cons, List.drop_zero, List.reverse_cons, List.reverse_nil, List.nil_append, List.cons_append, List.getD_cons_succ, List.getD_cons_zero, List.getD_nil, List.length_cons, List.length_nil, List.map_cons, List.map_nil, List.sum_cons, List.sum_nil, Nat.reduceAdd, Nat.reduceLeDiff, Value.category, Option.toList, true_or, or_true, z_ua, ↓reduceIte, Nat.reduceEqDiff, eq_self, not_true_eq_false, not_false_eq_true, false_implies, true_implies, Classical.not_not, Nat.le_refl, Nat.zero_le, n1]
  try dsimp only
  refine ⟨by decide, by decide, ?_⟩
  refine z_callA (e_c_ok (l := X.1) 4 159 71 (e_ad e_t1 11 0) e_t2 e_r2 _ g1) (by omega) (by rw [hm]; decide) (by rw [hs]; decide) (Nat.le_of_ble_eq_true rfl) ?_
  rintro r h2 ⟨rfl, H2⟩
  simp only [zW, z_wp1, z_ld, z_f0, z_f1, z_f2, z_f3, List.getElem?_cons_zero, List.getElem?_cons_succ, true_and, and_true, Int32.reduceOfInt, z_i10, z_i01, Int32.reduceLT, Int32.reduceLE, Int32.reduceAdd, Int32.reduceSub, z_set, z_set2, z_kil, List.set_cons_zero, List.set_cons_succ, List.take_succ_cons, List.take_zero, List.drop_succ_cons, List.drop_zero, List.reverse_cons, List.reverse_nil, List.nil_append, List.cons_append, List.getD_cons_succ, List.getD_cons_zero, List.getD_nil, List.length_cons, List.length_nil, List.map_cons, List.map_nil, List.sum_cons, List.sum_nil, Nat.reduceAdd, Nat.reduceLeDiff, Value.category, Option.toList, true_or, or_true, z_ua, ↓reduceIte, Nat.reduceEqDiff, eq_self, not_true_eq_false, not_false_eq_true, false_implies, true_implies, Classical.not_not, Nat.le_refl, Nat.zero_le]
  try dsimp only
  obtain ⟨n, K, L, I, J, G⟩ := h2
  exact w_loop hj hd hm hs hsc hLs hQ 512 0 _ _ _ 0 (by omega) (by omega) ⟨n, K, L, I, J, G, 0, 0, 0, _, 12, d_0, 0, rfl, e_XI H2, Nat.zero_le _⟩ (by decide) (by decide)
end LOOP2
