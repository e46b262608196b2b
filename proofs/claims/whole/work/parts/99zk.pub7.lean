/-! The public methods: tell -/
section PUB7
variable {l : Launch} {n : Nat} {K L : Nat → Nat} {I I' : Nat → Nat → Int32} {J : Nat → Nat → Int64} {G G' : Nat → Nat → Value} {M M' : Nat → Nat → Int32} {c F N c' F' N' : Nat} {tr tr' : Nat → (Int32 → Int32) → Int32} {cd cd' : Nat} {D : Nat → Nat} {ch rr : Nat}
theorem m_new.led {k f m : Nat} {v d : Int32} (h : m_new M M' c (nI k) (nI f) (nI m) v d) (hl : x_led I M c) (hk : k < 2) (hf : f < 16) (hm : m < 6) (hv : -1 ≤ v ∧ v ≤ 999) (h6 : c = 0 ∨ M 76 (c - 1) ≤ d) (e0 : I' 6 3 = nI (c + 1)) (e7 : ∀ t, I' 7 t = if t = c then nI (96 * k + 6 * f + m) else I 7 t) (e8 : ∀ t, I' 8 t = if t = c then v else I 8 t) (e9 : ∀ t, I' 9 t = if t = c then d else I 9 t) : x_led I' M' (c + 1) := by
  refine ⟨e0, fun t ht => ?_, fun t u htu hu => ?_, fun t ht => ?_⟩
  · obtain ⟨g1, g2, g3, g4, g5⟩ := h t
    rw [g1, g2, g3, g4, g5, e7, e8, e9]
    by_cases z : t = c
    · rw [if_pos z, if_pos z, if_pos z, if_pos z, if_pos z, if_pos z, if_pos z, if_pos z]
      exact ⟨k, f, m, hk, hf, hm, rfl, rfl, rfl, rfl, rfl, rfl⟩
    · rw [if_neg z, if_neg z, if_neg z, if_neg z, if_neg z, if_neg z, if_neg z, if_neg z]
      exact hl.2.1 t (by omega)
  · rw [(h t).2.2.2.2, (h u).2.2.2.2]
    by_cases z : u = c
    · rw [if_pos z]
      by_cases y : t = c
      · rw [if_pos y]; exact Int32.le_refl _
      · rw [if_neg y]
        rcases h6 with h6 | h6
        · omega
        · exact Int32.le_trans (hl.2.2.1 t (c - 1) (by omega) (by omega)) h6
    · rw [if_neg z, if_neg (by omega)]
      exact hl.2.2.1 t u htu (by omega)
  · rw [(h t).2.2.2.1]
    by_cases z : t = c
    · rw [if_pos z]; exact hv
    · rw [if_neg z]; exact hl.2.2.2 t (by omega)
theorem m_new.known {k f m v d : Int32} (h : m_new M M' c k f m v d) {d' : Int32} (hd : ¬ d ≤ d') (k' f' m' : Int32) : mI_known M' (c + 1) k' f' m' d' = mI_known M c k' f' m' d' := by
  have e : ∀ k'', mI_kn M' (c + 1) k'' f' m' d' = mI_kn M c k'' f' m' d' := fun k'' => by rw [h.kn, if_neg (fun q => hd q.2.2.2)]
  have e' : ∀ k'', m_kn (M' 72) (M' 73) (M' 74) (M' 75) (M' 76) k'' f' m' d' (c + 1) = m_kn (M 72) (M 73) (M 74) (M 75) (M 76) k'' f' m' d' c := e
  unfold mI_known m_known
  rw [e', e', e']
/-- a telling after the day of the view -/
theorem XI.af (hx : XI n K L I J G M c F N tr cd D ch rr) (hr : rr < 600) (hI : ∀ q, ¬ (6 ≤ q ∧ q ≤ 9) → I' q = I q) (hst : m_st M' c' F N tr ∧ p_lay (M' 78) 0 p_ws) (hl : x_led I' M' c') (hkn : ∀ k f m, mI_kn M' c' k f m (M 71 9) = mI_kn M c k f m (M 71 9)) (hk : ∀ k f m, mI_known M' c' k f m (M 71 9) = mI_known M c k f m (M 71 9)) (gq : ∀ q, q = 77 ∨ (90 ≤ q ∧ q ≤ 92) ∨ q = 97 → M' q = M q) (gk : ∀ k, mQ k → ¬ k = 2 → M' 71 k = M 71 k) : XI n K L I' J G M' c' F N tr cd D ch (rr + 1) := by
  have f3 : M' 71 8 = M 71 8 := gk _ (by unfold mQ; omega) (by decide)
  have f4 : M' 71 9 = M 71 9 := gk _ (by unfold mQ; omega) (by decide)
  have r1 : ∀ k i f, mT M' c' tr k (M 71 9) i f = mT M c tr k (M 71 9) i f := fun k i f => by
    unfold mT
    rw [show (fun m => mI_known M' c' k f m (M 71 9)) = (fun m => mI_known M c k f m (M 71 9)) from funext (fun m => hk k f m)]
  have r2 : mT M' c' tr (M 71 8) (M 71 9) = mT M c tr (M 71 8) (M 71 9) := by funext i f; exact r1 _ i f
  have r3 : ∀ mode, mR M' c' N tr mode = mR M c N tr mode := fun mode => by funext f; unfold mR; rw [f3, f4, r2]
  have r4 : ∀ v, mYs M' c' F tr v = mYs M c F tr v := fun v => by
    funext i
    unfold mYs
    have : mTv M' c' tr i = mTv M c tr i := by funext f; unfold mTv; rw [f3, f4]; exact r1 _ i f
    rw [this]
  have r5 : ∀ mode, x_cl M' c' F N tr mode = x_cl M c F N tr mode := fun mode => by funext s; unfold x_cl; rw [r3]
  obtain ⟨h0, h1, h2, h3, h4, h5, h6, h7, h8, h9, h10, h11⟩ := hx.up hr
  obtain ⟨a1, a2, a3, a4, a5, a6, a7, a8, a9, a10⟩ := h3
  have hcd : cd = 12 ∨ cd = 65 := h0.2.1.1
  have hD : ∀ i, i < 10 → I' (D i) = I (D i) := fun i hi => by
    obtain ⟨p, h1, -, h2, -⟩ := h0.2.2.2.1.pl hi
    have hp : 20 ≤ p ∧ p ≤ 57 := by
      revert h1
      simp only [List.mem_cons, List.not_mem_nil, or_false]
      omega
    exact hI _ (by omega)
  have e10 : I' 10 = I 10 := hI _ (by omega)
  have e11 : I' 11 = I 11 := hI _ (by omega)
  refine ⟨h0, hst, hl, ⟨by rw [e10]; exact a1, by rw [e10, f3]; exact a2, by rw [e10, f4]; exact a3, by rw [f3]; exact a4, fun k f m hk hf hm => by rw [e11, f4, hkn]; exact a5 k f m hk hf hm, a6.congr (by rw [hI cd (by omega)]) (hI _ (by omega)) (hI _ (by omega)), a7, fun f hf q => ?_, fun f hf => by rw [hI 18 (by omega)]; exact a9 f hf, by rw [e10]; exact a10⟩, (h4.cg (by rw [hI 5 (by omega)]) (hI 59 (by omega))).mg (gk _ (by unfold mQ; omega) (by decide)) (gq 77 (by omega)), (h5.cg (hI 60 (by omega))).mg (gk _ (by unfold mQ; omega) (by decide)) (gk _ (by unfold mQ; omega) (by decide)), ?_, ?_, (h8.mg (fun q _ _ => gq q (by omega)) (gk _ (by unfold mQ; omega) (by decide)) (gk _ (by unfold mQ; omega) (by decide)) (gk _ (by unfold mQ; omega) (by decide)) (gk _ (by unfold mQ; omega) (by decide))).cg (hI _ (by omega)) (hI _ (by omega)) (hI _ (by omega)) (hI _ (by omega)), ?_, ?_, ?_⟩
  · have eT : x_T I' tr f = x_T I tr f := by funext i; unfold x_T; rw [e10, e11]
    rw [hI 18 (by omega)] at q
    rw [hI 16 (by omega), hI 17 (by omega), eT]
    exact a8 f hf q
  · have h6' := h6.cg (I' := I') (hI _ (by omega)) (hD 0 (by omega)) (hD 1 (by omega)) (hD 3 (by omega))
    unfold x_lat at *
    rw [r5]
    exact h6'
  · have h7' := h7.cg (I' := I') (hI _ (by omega)) (hD 4 (by omega)) (hD 5 (by omega)) (hD 7 (by omega))
    unfold x_lat at *
    rw [r5]
    exact h7'
  · have h9' := h9.cg (I' := I') (J' := J) (fun q _ _ => hI q (by omega)) rfl rfl
    unfold x_sez at *
    simp only [r3]
    exact h9'
  · have h10' := h10.cg (I' := I') (fun q _ _ => hI q (by omega))
    unfold x_crz at *
    simp only [r3]
    exact h10'
  · have h11' := h11.cg (I' := I') (fun q _ _ => hI q (by omega)) (hD 9 (by omega))
    unfold x_kyz at *
    rw [r4, r4, gq 97 (by omega)]
    exact h11'
/-- tell -/
theorem d117a (hx : XI n K L I J G M c F N tr cd D ch rr) (hr : rr < 600) {k f m : Nat} {v d : Int32} (hk : k < 2) (hf : f < F) (hm6 : m < 6) (hv : -1 ≤ v ∧ v ≤ 999) (hdd : 0 ≤ d ∧ d ≤ 999) (hc4 : c < 400) (h6 : c = 0 ∨ M 76 (c - 1) ≤ d) : z_Ctr l 6 117 [.ref 5, .int (nI k), .int (nI f), .int (nI m), .int v, .int d] (n, K, L, I, J, G) 0 0 (x_pq n I J (fun M' => mGd (fun k => k = 2) (fun q => 72 ≤ q ∧ q ≤ 76) M M' ∧ M' 71 2 = nI (c + 1) ∧ m_new M M' c (nI k) (nI f) (nI m) v d) (c + 1) F N tr (rr + 1) (x_u L D) (.int 1)) := by
  have hS : SS K L G := hx.S
  have hx0 := hx
  obtain ⟨h0, h1, h2, h3, h4, h5, -, -, -, -, -, -⟩ := hx
  obtain ⟨a1, a2, a3, a4, a5, a6, a7, a8, a9, a10⟩ := h3
  obtain ⟨s1, s2, s3, s4, s5⟩ := h1.1
  have hcd : cd = 12 ∨ cd = 65 := h0.2.1.1
  have n1 : ¬ nI k < 0 := nI_pos (by omega)
  have n2 : ¬ (2 : Int32) ≤ nI k := fun q => by
    have := (nI_leI (a := 2) (b := k) (by omega) (by omega)).mp q
    omega
  have hf' : (0 : Int32) ≤ nI f ∧ nI f < I 10 0 := ⟨nI_pos' (by omega), by rw [a1]; exact nI_lt hf (by omega)⟩
  have hm' : (0 : Int32) ≤ nI m ∧ nI m ≤ 5 := ⟨nI_pos' (by omega), (nI_leI (a := m) (b := 5) (by omega) (by omega)).mpr (by omega)⟩
  have n3 : ¬ v < -1 := Int32.not_lt.mpr hv.1
  have n4 : ¬ 999 < v := Int32.not_lt.mpr hv.2
  have h6' : c = 0 ∨ I 9 (c - 1) ≤ d := by
    rcases h6 with h6 | h6
    · exact Or.inl h6
    · by_cases z : c = 0
      · exact Or.inl z
      · obtain ⟨_, _, _, _, _, _, _, _, _, _, _, e⟩ := h2.2.1 (c - 1) (by omega)
        rw [e]; exact Or.inr h6
  have es : nI k * 96 + nI f * 6 + nI m = nI (96 * k + 6 * f + m) := by
    rw [show (96 : Int32) = nI 96 from rfl, show (6 : Int32) = nI 6 from rfl, nI_mul, nI_mul, nI_add, nI_add, Nat.mul_comm k, Nat.mul_comm f]
  refine z_ctr (by decide) (by decide +kernel) (Nat.le_of_ble_eq_true rfl) (by decide +kernel) (fun X hl hj hd hm hs hsc hQ => ?_)
  show zV X 0 [some (.ref 5), some (.int (nI k)), some (.int (nI f)), some (.int (nI m)), some (.int v), some (.int d), none] [] _ 0 0
  subst hl
  refine zW_ok hj B117_0 0 _ _ _ _ _ b117_0 ?_
  simp only [B117_0, zW, z_wp1, z_ld, z_f0, z_f1, z_f2, z_f3, List.getElem?_cons_zero, List.getElem?_cons_succ, true_and, and_true, Int32.reduceOfInt, z_i10, z_i01, Int32.reduceLT, Int32.reduceLE, Int32.reduceAdd, Int32.reduceSub, z_set, z_set2, z_kil, List.set_cons_zero, List.set_cons_succ, List.take_succ_cons, List.take_zero, List.drop_succ_cons, List.drop_zero, List.reverse_cons, List.reverse_nil, List.nil_append, List.cons_append, List.getD_cons_succ, List.getD_cons_zero, List.getD_nil, List.length_cons, List.length_nil, List.map_cons, List.map_nil, List.sum_cons, List.sum_nil, Nat.reduceAdd, Nat.reduceLeDiff, Value.category, Option.toList, true_or, or_true, z_ua, ↓reduceIte, Nat.reduceEqDiff, eq_self, not_true_eq_false, not_false_eq_true, false_implies, true_implies, Classical.not_not, Nat.le_refl, Nat.zero_le, n1, n2, sK5 hS, sG5_1 hS, sK10 hS]
  try dsimp only
  refine z_callD (c86 (I := I) (J := J) hS (nI f)) (by omega) (by omega) (by omega) (Nat.le_of_ble_eq_true rfl) ?_
  try simp only [zW, z_wp1, z_ld, z_f0, z_f1, z_f2, z_f3, List.getElem?_cons_zero, List.getElem?_cons_succ, true_and, and_true, Int32.reduceOfInt, z_i10, z_i01, Int32.reduceLT, Int32.reduceLE, Int32.reduceAdd, Int32.reduceSub, z_set, z_set2, z_kil, List.set_cons_zero, List.set_cons_succ, List.take_succ_cons, List.take_zero, List.drop_succ_cons, List.drop_zero, List.reverse_cons, List.reverse_nil, List.nil_append, List.cons_append, List.getD_cons_succ, List.getD_cons_zero, List.getD_nil, List.length_cons, List.length_nil, List.map_cons, List.map_nil, List.sum_cons, List.sum_nil, Nat.reduceAdd, Nat.reduceLeDiff, Value.category, Option.toList, true_or, or_true, z_ua, ↓reduceIte, Nat.reduceEqDiff, eq_self, not_true_eq_false, not_false_eq_true, false_implies, true_implies, Classical.not_not, Nat.le_refl, Nat.zero_le, z_b1 hf']
  try dsimp only
  refine z_callD (c152 (h := (n, K, L, I, J, G)) (nI m)) (by omega) (by omega) (by omega) (Nat.le_of_ble_eq_true rfl) ?_
  try simp only [zW, z_wp1, z_ld, z_f0, z_f1, z_f2, z_f3, List.getElem?_cons_zero, List.getElem?_cons_succ, true_and, and_true, Int32.reduceOfInt, z_i10, z_i01, Int32.reduceLT, Int32.reduceLE, Int32.reduceAdd, Int32.reduceSub, z_set, z_set2, z_kil, List.set_cons_zero, List.set_cons_succ, List.take_succ_cons, List.take_zero, List.drop_succ_cons, List.drop_zero, List.reverse_cons, List.reverse_nil, List.nil_append, List.cons_append, List.getD_cons_succ, List.getD_cons_zero, List.getD_nil, List.length_cons, List.length_nil, List.map_cons, List.map_nil, List.sum_cons, List.sum_nil, Nat.reduceAdd, Nat.reduceLeDiff, Value.category, Option.toList, true_or, or_true, z_ua, ↓reduceIte, Nat.reduceEqDiff, eq_self, not_true_eq_false, not_false_eq_true, false_implies, true_implies, Classical.not_not, Nat.le_refl, Nat.zero_le, z_b1 hm']
  try dsimp only
  refine zW_ok hj B117_29 29 _ _ _ _ _ b117_29 ?_
  simp only [B117_29, zW, z_wp1, z_ld, z_f0, z_f1, z_f2, z_f3, List.getElem?_cons_zero, List.getElem?_cons_succ, true_and, and_true, Int32.reduceOfInt, z_i10, z_i01, Int32.reduceLT, Int32.reduceLE, Int32.reduceAdd, Int32.reduceSub, z_set, z_set2, z_kil, List.set_cons_zero, List.set_cons_succ, List.take_succ_cons, List.take_zero, List.drop_succ_cons, List.drop_zero, List.reverse_cons, List.reverse_nil, List.nil_append, List.cons_append, List.getD_cons_succ, List.getD_cons_zero, List.getD_nil, List.length_cons, List.length_nil, List.map_cons, List.map_nil, List.sum_cons, List.sum_nil, Nat.reduceAdd, Nat.reduceLeDiff, Value.category, Option.toList, true_or, or_true, z_ua, ↓reduceIte, Nat.reduceEqDiff, eq_self, not_true_eq_false, not_false_eq_true, false_implies, true_implies, Classical.not_not, Nat.le_refl, Nat.zero_le, n3, n4]
  try dsimp only
  refine z_callD (c153 (h := (n, K, L, I, J, G)) d) (by omega) (by omega) (by omega) (Nat.le_of_ble_eq_true rfl) ?_
  try simp only [zW, z_wp1, z_ld, z_f0, z_f1, z_f2, z_f3, List.getElem?_cons_zero, List.getElem?_cons_succ, true_and, and_true, Int32.reduceOfInt, z_i10, z_i01, Int32.reduceLT, Int32.reduceLE, Int32.reduceAdd, Int32.reduceSub, z_set, z_set2, z_kil, List.set_cons_zero, List.set_cons_succ, List.take_succ_cons, List.take_zero, List.drop_succ_cons, List.drop_zero, List.reverse_cons, List.reverse_nil, List.nil_append, List.cons_append, List.getD_cons_succ, List.getD_cons_zero, List.getD_nil, List.length_cons, List.length_nil, List.map_cons, List.map_nil, List.sum_cons, List.sum_nil, Nat.reduceAdd, Nat.reduceLeDiff, Value.category, Option.toList, true_or, or_true, z_ua, ↓reduceIte, Nat.reduceEqDiff, eq_self, not_true_eq_false, not_false_eq_true, false_implies, true_implies, Classical.not_not, Nat.le_refl, Nat.zero_le, z_b1 hdd, sK5 hS, sG5_0 hS, sK6 hS]
  try dsimp only
  refine z_callD (c44a (n := n) (J := J) hS h2.1 hc4 h6') (by omega) (by omega) (by omega) (Nat.le_of_ble_eq_true rfl) ?_
  try simp only [zW, z_wp1, z_ld, z_f0, z_f1, z_f2, z_f3, List.getElem?_cons_zero, List.getElem?_cons_succ, true_and, and_true, Int32.reduceOfInt, z_i10, z_i01, Int32.reduceLT, Int32.reduceLE, Int32.reduceAdd, Int32.reduceSub, z_set, z_set2, z_kil, List.set_cons_zero, List.set_cons_succ, List.take_succ_cons, List.take_zero, List.drop_succ_cons, List.drop_zero, List.reverse_cons, List.reverse_nil, List.nil_append, List.cons_append, List.getD_cons_succ, List.getD_cons_zero, List.getD_nil, List.length_cons, List.length_nil, List.map_cons, List.map_nil, List.sum_cons, List.sum_nil, Nat.reduceAdd, Nat.reduceLeDiff, Value.category, Option.toList, true_or, or_true, z_ua, ↓reduceIte, Nat.reduceEqDiff, eq_self, not_true_eq_false, not_false_eq_true, false_implies, true_implies, Classical.not_not, Nat.le_refl, Nat.zero_le]
  try dsimp only
  refine zW_ok hj B117_65 65 _ _ _ _ _ b117_65 ?_
  simp only [B117_65, zW, z_wp1, z_ld, z_f0, z_f1, z_f2, z_f3, List.getElem?_cons_zero, List.getElem?_cons_succ, true_and, and_true, Int32.reduceOfInt, z_i10, z_i01, Int32.reduceLT, Int32.reduceLE, Int32.reduceAdd, Int32.reduceSub, z_set, z_set2, z_kil, List.set_cons_zero, List.set_cons_succ, List.take_succ_cons, List.take_zero, List.drop_succ_cons, List.drop_zero, List.reverse_cons, List.reverse_nil, List.nil_append, List.cons_append, List.getD_cons_succ, List.getD_cons_zero, List.getD_nil, List.length_cons, List.length_nil, List.map_cons, List.map_nil, List.sum_cons, List.sum_nil, Nat.reduceAdd, Nat.reduceLeDiff, Value.category, Option.toList, true_or, or_true, z_ua, ↓reduceIte, Nat.reduceEqDiff, eq_self, not_true_eq_false, not_false_eq_true, false_implies, true_implies, Classical.not_not, Nat.le_refl, Nat.zero_le, sK5 hS, sG5_0 hS, sK6 hS, es]
  try dsimp only
  refine z_callD (c45 (n := n) (J := J) hS h2.1 hc4 (nI (96 * k + 6 * f + m)) v d) (by omega) (by omega) (by omega) (Nat.le_of_ble_eq_true rfl) ?_
  try simp only [zW, z_wp1, z_ld, z_f0, z_f1, z_f2, z_f3, List.getElem?_cons_zero, List.getElem?_cons_succ, true_and, and_true, Int32.reduceOfInt, z_i10, z_i01, Int32.reduceLT, Int32.reduceLE, Int32.reduceAdd, Int32.reduceSub, z_set, z_set2, z_kil, List.set_cons_zero, List.set_cons_succ, List.take_succ_cons, List.take_zero, List.drop_succ_cons, List.drop_zero, List.reverse_cons, List.reverse_nil, List.nil_append, List.cons_append, List.getD_cons_succ, List.getD_cons_zero, List.getD_nil, List.length_cons, List.length_nil, List.map_cons, List.map_nil, List.sum_cons, List.sum_nil, Nat.reduceAdd, Nat.reduceLeDiff, Value.category, Option.toList, true_or, or_true, z_ua, ↓reduceIte, Nat.reduceEqDiff, eq_self, not_true_eq_false, not_false_eq_true, false_implies, true_implies, Classical.not_not, Nat.le_refl, Nat.zero_le, sK5 hS, sG5_1 hS, sK10 hS]
  try dsimp only
  generalize hI1 : z_u (z_u (z_u (z_u I 7 c (nI (96 * k + 6 * f + m))) 8 c v) 9 c d) 6 3 (nI (c + 1)) = I1
  have o1 : ∀ q, ¬ (6 ≤ q ∧ q ≤ 9) → I1 q = I q := fun q hq => by rw [← hI1, z_u_ne (by omega), z_u_ne (by omega), z_u_ne (by omega), z_u_ne (by omega)]
  have l0 : I1 6 3 = nI (c + 1) := by rw [← hI1, z_u_at, if_pos rfl]
  have l7 : ∀ t, I1 7 t = if t = c then nI (96 * k + 6 * f + m) else I 7 t := fun t => by rw [← hI1, z_u_ne (by decide), z_u_ne (by decide), z_u_ne (by decide), z_u_at]
  have l8 : ∀ t, I1 8 t = if t = c then v else I 8 t := fun t => by rw [← hI1, z_u_ne (by decide), z_u_ne (by decide), z_u_at, z_u_ne (by decide)]
  have l9 : ∀ t, I1 9 t = if t = c then d else I 9 t := fun t => by rw [← hI1, z_u_ne (by decide), z_u_at, z_u_ne (by decide), z_u_ne (by decide)]
  have e10 : I1 10 = I 10 := o1 10 (by omega)
  by_cases hday : d ≤ M 71 9
  · refine z_callD (c92a (n := n) (I := I1) (J := J) hS (s := 96 * k + 6 * f + m) (f := f) (v := v) (d := d) (by omega) (by omega) (by rw [e10, a3]; exact hday)) (by omega) (by omega) (by omega) (Nat.le_of_ble_eq_true rfl) ?_
    try simp only [zW, z_wp1, z_ld, z_f0, z_f1, z_f2, z_f3, List.getElem?_cons_zero, List.getElem?_cons_succ, true_and, and_true, Int32.reduceOfInt, z_i10, z_i01, Int32.reduceLT, Int32.reduceLE, Int32.reduceAdd, Int32.reduceSub, z_set, z_set2, z_kil, List.set_cons_zero, List.set_cons_succ, List.take_succ_cons, List.take_zero, List.drop_succ_cons, List.drop_zero, List.reverse_cons, List.reverse_nil, List.nil_append, List.cons_append, List.getD_cons_succ, List.getD_cons_zero, List.getD_nil, List.length_cons, List.length_nil, List.map_cons, List.map_nil, List.sum_cons, List.sum_nil, Nat.reduceAdd, Nat.reduceLeDiff, Value.category, Option.toList, true_or, or_true, z_ua, ↓reduceIte, Nat.reduceEqDiff, eq_self, not_true_eq_false, not_false_eq_true, false_implies, true_implies, Classical.not_not, Nat.le_refl, Nat.zero_le]
    try dsimp only
    generalize hI2 : z_u (z_u (z_u I1 11 (96 * k + 6 * f + m) v) 18 f 0) 10 10 (I1 10 10 + 1) = I2
    have o2 : ∀ q, q ≠ 10 → q ≠ 11 → q ≠ 18 → I2 q = I1 q := fun q x y z => by rw [← hI2, z_u_ne x, z_u_ne z, z_u_ne y]
    have o : ∀ q, ¬ (6 ≤ q ∧ q ≤ 11) → q ≠ 18 → I2 q = I q := fun q x y => by rw [o2 q (by omega) (by omega) y, o1 q (by omega)]
    have ok : ∀ k, k ≠ 10 → I2 10 k = I 10 k := fun k k1 => by rw [← hI2, z_u_at, if_neg k1, z_u_ne (by decide), z_u_ne (by decide), e10]
    have e11 : ∀ s, I2 11 s = if s = 96 * k + 6 * f + m then v else I 11 s := fun s => by rw [← hI2, z_u_ne (by decide), z_u_ne (by decide), z_u_at, o1 11 (by omega)]
    have e18 : ∀ g, I2 18 g = if g = f then 0 else I 18 g := fun s => by rw [← hI2, z_u_ne (by decide), z_u_at, z_u_ne (by decide), o1 18 (by omega)]
    have ek : I2 10 1 = I 10 1 := ok _ (by decide)
    refine hQ _ _ ⟨rfl, n, K, L, I2, J, G, cd, D, ch + 1, rfl, fun M' hP => ?_, hS, Nat.le_refl _, fun q a b => ⟨o q (by omega) (by omega), rfl⟩, Nat.le_refl _⟩
    obtain ⟨hg, m1, m2⟩ := hP
    have gq : ∀ q, (77 ≤ q ∧ q ≤ 82) ∨ (90 ≤ q ∧ q ≤ 92) ∨ q = 97 → M' q = M q := fun q hq => hg.1 q (by omega) (by omega)
    have gk : ∀ k, mQ k → ¬ k = 2 → M' 71 k = M 71 k := hg.2
    have vk : M' 71 8 = M 71 8 := gk _ (by unfold mQ; omega) (by decide)
    have vd : M' 71 9 = M 71 9 := gk _ (by unfold mQ; omega) (by decide)
    refine hx0.nw hr hS h0.2.1 (fun _ _ _ => rfl) (fun q hq => o q (by omega) (by omega)) ⟨⟨m1, by omega, by rw [gk _ (by unfold mQ; omega) (by decide)]; exact s3, s4, s5.mg (gk _ (by unfold mQ; omega) (by decide)) (fun q _ _ => gq q (by omega))⟩, by rw [gq 78 (by omega)]; exact h1.2⟩ (m2.led h2 hk (by omega) hm6 hv h6 (by rw [o2 6 (by omega) (by omega) (by omega)]; exact l0) (by rw [o2 7 (by omega) (by omega) (by omega)]; exact l7) (by rw [o2 8 (by omega) (by omega) (by omega)]; exact l8) (by rw [o2 9 (by omega) (by omega) (by omega)]; exact l9)) ⟨by rw [ok _ (by decide)]; exact a1, by rw [ek, vk]; exact a2, by rw [ok _ (by decide), vd]; exact a3, by rw [vk]; exact a4, fun k' g m' hk' hg' hm'' => ?_, a6.congr (by rw [o cd (by omega) (by omega)]) (o _ (by omega) (by omega)) (o _ (by omega) (by omega)), a7, fun g hg' q => ?_, fun g hg' => by rw [e18 g, if_neg (by omega)]; exact a9 g hg', ?_⟩ ((h4.cg (by rw [o 5 (by omega) (by omega)]) (o 59 (by omega) (by omega))).mg (gk _ (by unfold mQ; omega) (by decide)) (gq 77 (by omega))) ((h5.cg (o 60 (by omega) (by omega))).mg (gk _ (by unfold mQ; omega) (by decide)) (gk _ (by unfold mQ; omega) (by decide))) (fun q _ _ => gq q (by omega)) (gk _ (by unfold mQ; omega) (by decide)) (gk _ (by unfold mQ; omega) (by decide)) (gk _ (by unfold mQ; omega) (by decide)) (gk _ (by unfold mQ; omega) (by decide)) (gq 97 (by omega))
    · rw [e11, vd, m2.kn, ← a5 k' g m' hk' hg' hm'']
      by_cases z : k = k' ∧ f = g ∧ m = m'
      · rw [if_pos (by omega), if_pos ⟨by rw [z.1], by rw [z.2.1], by rw [z.2.2], hday⟩]
      · rw [if_neg (by omega), if_neg (fun q => z ⟨(nI_eq (by omega) (by omega)).mp q.1, (nI_eq (by omega) (by omega)).mp q.2.1, (nI_eq (by omega) (by omega)).mp q.2.2.1⟩)]
    · rw [e18 g] at q
      have hgf : g ≠ f := fun z => by rw [if_pos z] at q; exact q rfl
      rw [if_neg hgf] at q
      obtain ⟨q1, q2⟩ := a8 g hg' q
      have eT : ∀ i, i < N → x_T I tr g i = x_T I2 tr g i := fun i hi => x_tr_congr a6 hi (fun a ha => by
        obtain ⟨m', hm', rfl⟩ := x_lt6 ha
        unfold x_me
        rw [nI_clamp (by omega), e11, e11, if_neg (by omega), if_neg (by omega), ek])
      rw [o 16 (by omega) (by omega), o 17 (by omega) (by omega), q1, q2]
      exact ⟨x_bits_congr eT, x_bits_congr eT⟩
    · rw [← hI2, z_u_at, if_pos rfl, e10, a10]
      exact nI_add ch 1
  · refine z_callD (c92b (n := n) (I := I1) (J := J) hS (s := nI (96 * k + 6 * f + m)) (f := nI f) (v := v) (d := d) (by rw [e10, a3]; exact hday)) (by omega) (by omega) (by omega) (Nat.le_of_ble_eq_true rfl) ?_
    try simp only [zW, z_wp1, z_ld, z_f0, z_f1, z_f2, z_f3, List.getElem?_cons_zero, List.getElem?_cons_succ, true_and, and_true, Int32.reduceOfInt, z_i10, z_i01, Int32.reduceLT, Int32.reduceLE, Int32.reduceAdd, Int32.reduceSub, z_set, z_set2, z_kil, List.set_cons_zero, List.set_cons_succ, List.take_succ_cons, List.take_zero, List.drop_succ_cons, List.drop_zero, List.reverse_cons, List.reverse_nil, List.nil_append, List.cons_append, List.getD_cons_succ, List.getD_cons_zero, List.getD_nil, List.length_cons, List.length_nil, List.map_cons, List.map_nil, List.sum_cons, List.sum_nil, Nat.reduceAdd, Nat.reduceLeDiff, Value.category, Option.toList, true_or, or_true, z_ua, ↓reduceIte, Nat.reduceEqDiff, eq_self, not_true_eq_false, not_false_eq_true, false_implies, true_implies, Classical.not_not, Nat.le_refl, Nat.zero_le]
    try dsimp only
    refine hQ _ _ ⟨rfl, n, K, L, I1, J, G, cd, D, ch, rfl, fun M' hP => ?_, hS, Nat.le_refl _, fun q a b => ⟨o1 q (by omega), rfl⟩, Nat.le_refl _⟩
    obtain ⟨hg, m1, m2⟩ := hP
    have gq : ∀ q, (77 ≤ q ∧ q ≤ 82) ∨ (90 ≤ q ∧ q ≤ 92) ∨ q = 97 → M' q = M q := fun q hq => hg.1 q (by omega) (by omega)
    have gk : ∀ k, mQ k → ¬ k = 2 → M' 71 k = M 71 k := hg.2
    exact hx0.af hr o1 ⟨⟨m1, by omega, by rw [gk _ (by unfold mQ; omega) (by decide)]; exact s3, s4, s5.mg (gk _ (by unfold mQ; omega) (by decide)) (fun q _ _ => gq q (by omega))⟩, by rw [gq 78 (by omega)]; exact h1.2⟩ (m2.led h2 hk (by omega) hm6 hv h6 l0 l7 l8 l9) (fun k' f' m' => by rw [m2.kn, if_neg (fun q => hday q.2.2.2)]) (fun k' f' m' => m2.known hday k' f' m') (fun q hq => gq q (by omega)) gk
theorem d117b (hx : XI n K L I J G M c F N tr cd D ch rr) (hr : rr < 600) {k f m v d : Int32} (h : ¬ ((0 ≤ k ∧ k ≤ 1) ∧ (0 ≤ f ∧ f < nI F) ∧ (0 ≤ m ∧ m ≤ 5) ∧ (-1 ≤ v ∧ v ≤ 999) ∧ (0 ≤ d ∧ d ≤ 999) ∧ c < 400 ∧ (c = 0 ∨ M 76 (c - 1) ≤ d))) : z_Ctr l 6 117 [.ref 5, .int k, .int f, .int m, .int v, .int d] (n, K, L, I, J, G) 0 0 (x_po n I J M c F N tr (rr + 1) (x_u L D) (.int 0)) := by
  have hS : SS K L G := hx.S
  have f1 : I 10 0 = nI F := hx.fn.1
  have hled := hx.2.2.1
  have hc4 : c ≤ 400 := hx.2.1.1.2.1
  refine z_ctr (by decide) (by decide +kernel) (Nat.le_of_ble_eq_true rfl) (by decide +kernel) (fun X hl hj hd hm hs hsc hQ => ?_)
  show zV X 0 [some (.ref 5), some (.int k), some (.int f), some (.int m), some (.int v), some (.int d), none] [] _ 0 0
  have no : zV X 27 [some (.ref 5), some (.int k), some (.int f), some (.int m), some (.int v), some (.int d), none] [] (n, K, L, I, J, G) 0 0 := by
    refine zW_ok hj B117_27 27 _ _ _ _ _ b117_27 ?_
    simp only [B117_27, zW, z_wp1, z_ld, z_f0, z_f1, z_f2, z_f3, List.getElem?_cons_zero, List.getElem?_cons_succ, true_and, and_true, Int32.reduceOfInt, z_i10, z_i01, Int32.reduceLT, Int32.reduceLE, Int32.reduceAdd, Int32.reduceSub, z_set, z_set2, z_kil, List.set_cons_zero, List.set_cons_succ, List.take_succ_cons, List.take_zero, List.drop_succ_cons, List.drop_zero, List.reverse_cons, List.reverse_nil, List.nil_append, List.cons_append, List.getD_cons_succ, List.getD_cons_zero, List.getD_nil, List.length_cons, List.length_nil, List.map_cons, List.map_nil, List.sum_cons, List.sum_nil, Nat.reduceAdd, Nat.reduceLeDiff, Value.category, Option.toList, true_or, or_true, z_ua, ↓reduceIte, Nat.reduceEqDiff, eq_self, not_true_eq_false, not_false_eq_true, false_implies, true_implies, Classical.not_not, Nat.le_refl, Nat.zero_le]
    try dsimp only
    exact hQ _ _ (x_po.id hx hr _)
  have no' : zV X 63 [some (.ref 5), some (.int k), some (.int f), some (.int m), some (.int v), some (.int d), none] [] (n, K, L, I, J, G) 0 0 := by
    refine zW_ok hj B117_63 63 _ _ _ _ _ b117_63 ?_
    simp only [B117_63, zW, z_wp1, z_ld, z_f0, z_f1, z_f2, z_f3, List.getElem?_cons_zero, List.getElem?_cons_succ, true_and, and_true, Int32.reduceOfInt, z_i10, z_i01, Int32.reduceLT, Int32.reduceLE, Int32.reduceAdd, Int32.reduceSub, z_set, z_set2, z_kil, List.set_cons_zero, List.set_cons_succ, List.take_succ_cons, List.take_zero, List.drop_succ_cons, List.drop_zero, List.reverse_cons, List.reverse_nil, List.nil_append, List.cons_append, List.getD_cons_succ, List.getD_cons_zero, List.getD_nil, List.length_cons, List.length_nil, List.map_cons, List.map_nil, List.sum_cons, List.sum_nil, Nat.reduceAdd, Nat.reduceLeDiff, Value.category, Option.toList, true_or, or_true, z_ua, ↓reduceIte, Nat.reduceEqDiff, eq_self, not_true_eq_false, not_false_eq_true, false_implies, true_implies, Classical.not_not, Nat.le_refl, Nat.zero_le]
    try dsimp only
    exact hQ _ _ (x_po.id hx hr _)
  refine zW_ok hj B117_0 0 _ _ _ _ _ b117_0 ?_
  simp only [B117_0, zW, z_wp1, z_ld, z_f0, z_f1, z_f2, z_f3, List.getElem?_cons_zero, List.getElem?_cons_succ, true_and, and_true, Int32.reduceOfInt, z_i10, z_i01, Int32.reduceLT, Int32.reduceLE, Int32.reduceAdd, Int32.reduceSub, z_set, z_set2, z_kil, List.set_cons_zero, List.set_cons_succ, List.take_succ_cons, List.take_zero, List.drop_succ_cons, List.drop_zero, List.reverse_cons, List.reverse_nil, List.nil_append, List.cons_append, List.getD_cons_succ, List.getD_cons_zero, List.getD_nil, List.length_cons, List.length_nil, List.map_cons, List.map_nil, List.sum_cons, List.sum_nil, Nat.reduceAdd, Nat.reduceLeDiff, Value.category, Option.toList, true_or, or_true, z_ua, ↓reduceIte, Nat.reduceEqDiff, eq_self, not_true_eq_false, not_false_eq_true, false_implies, true_implies, Classical.not_not, Nat.le_refl, Nat.zero_le, sK5 hS, sG5_1 hS, sK10 hS]
  try dsimp only
  refine ⟨fun _ => no, fun k1 => ⟨fun _ => no, fun k2 => ?_⟩⟩
  have hk : 0 ≤ k ∧ k ≤ 1 := ⟨Int32.not_lt.mp k1, by
    obtain ⟨a, ha, e⟩ := nI_of (x := k) k1
    rw [e] at k2 ⊢
    refine (nI_leI (a := a) (b := 1) ha (by omega)).mpr ?_
    by_cases z : 2 ≤ a
    · exact absurd ((nI_leI (a := 2) (b := a) (by omega) ha).mpr z) k2
    · omega⟩
  by_cases h1 : 0 ≤ f ∧ f < I 10 0
  · refine z_callD (c86 (I := I) (J := J) hS f) (by omega) (by omega) (by omega) (Nat.le_of_ble_eq_true rfl) ?_
    try simp only [zW, z_wp1, z_ld, z_f0, z_f1, z_f2, z_f3, List.getElem?_cons_zero, List.getElem?_cons_succ, true_and, and_true, Int32.reduceOfInt, z_i10, z_i01, Int32.reduceLT, Int32.reduceLE, Int32.reduceAdd, Int32.reduceSub, z_set, z_set2, z_kil, List.set_cons_zero, List.set_cons_succ, List.take_succ_cons, List.take_zero, List.drop_succ_cons, List.drop_zero, List.reverse_cons, List.reverse_nil, List.nil_append, List.cons_append, List.getD_cons_succ, List.getD_cons_zero, List.getD_nil, List.length_cons, List.length_nil, List.map_cons, List.map_nil, List.sum_cons, List.sum_nil, Nat.reduceAdd, Nat.reduceLeDiff, Value.category, Option.toList, true_or, or_true, z_ua, ↓reduceIte, Nat.reduceEqDiff, eq_self, not_true_eq_false, not_false_eq_true, false_implies, true_implies, Classical.not_not, Nat.le_refl, Nat.zero_le, z_b1 h1]
    try dsimp only
    by_cases h2 : 0 ≤ m ∧ m ≤ 5
    · refine z_callD (c152 (h := (n, K, L, I, J, G)) m) (by omega) (by omega) (by omega) (Nat.le_of_ble_eq_true rfl) ?_
      try simp only [zW, z_wp1, z_ld, z_f0, z_f1, z_f2, z_f3, List.getElem?_cons_zero, List.getElem?_cons_succ, true_and, and_true, Int32.reduceOfInt, z_i10, z_i01, Int32.reduceLT, Int32.reduceLE, Int32.reduceAdd, Int32.reduceSub, z_set, z_set2, z_kil, List.set_cons_zero, List.set_cons_succ, List.take_succ_cons, List.take_zero, List.drop_succ_cons, List.drop_zero, List.reverse_cons, List.reverse_nil, List.nil_append, List.cons_append, List.getD_cons_succ, List.getD_cons_zero, List.getD_nil, List.length_cons, List.length_nil, List.map_cons, List.map_nil, List.sum_cons, List.sum_nil, Nat.reduceAdd, Nat.reduceLeDiff, Value.category, Option.toList, true_or, or_true, z_ua, ↓reduceIte, Nat.reduceEqDiff, eq_self, not_true_eq_false, not_false_eq_true, false_implies, true_implies, Classical.not_not, Nat.le_refl, Nat.zero_le, z_b1 h2]
      try dsimp only
      refine zW_ok hj B117_29 29 _ _ _ _ _ b117_29 ?_
      simp only [B117_29, zW, z_wp1, z_ld, z_f0, z_f1, z_f2, z_f3, List.getElem?_cons_zero, List.getElem?_cons_succ, true_and, and_true, Int32.reduceOfInt, z_i10, z_i01, Int32.reduceLT, Int32.reduceLE, Int32.reduceAdd, Int32.reduceSub, z_set, z_set2, z_kil, List.set_cons_zero, List.set_cons_succ, List.take_succ_cons, List.take_zero, List.drop_succ_cons, List.drop_zero, List.reverse_cons, List.reverse_nil, List.nil_append, List.cons_append, List.getD_cons_succ, List.getD_cons_zero, List.getD_nil, List.length_cons, List.length_nil, List.map_cons, List.map_nil, List.sum_cons, List.sum_nil, Nat.reduceAdd, Nat.reduceLeDiff, Value.category, Option.toList, true_or, or_true, z_ua, ↓reduceIte, Nat.reduceEqDiff, eq_self, not_true_eq_false, not_false_eq_true, false_implies, true_implies, Classical.not_not, Nat.le_refl, Nat.zero_le]
      try dsimp only
      refine ⟨fun _ => no', fun v1 => ⟨fun _ => no', fun v2 => ?_⟩⟩
      by_cases h3 : 0 ≤ d ∧ d ≤ 999
      · refine z_callD (c153 (h := (n, K, L, I, J, G)) d) (by omega) (by omega) (by omega) (Nat.le_of_ble_eq_true rfl) ?_
        try simp only [zW, z_wp1, z_ld, z_f0, z_f1, z_f2, z_f3, List.getElem?_cons_zero, List.getElem?_cons_succ, true_and, and_true, Int32.reduceOfInt, z_i10, z_i01, Int32.reduceLT, Int32.reduceLE, Int32.reduceAdd, Int32.reduceSub, z_set, z_set2, z_kil, List.set_cons_zero, List.set_cons_succ, List.take_succ_cons, List.take_zero, List.drop_succ_cons, List.drop_zero, List.reverse_cons, List.reverse_nil, List.nil_append, List.cons_append, List.getD_cons_succ, List.getD_cons_zero, List.getD_nil, List.length_cons, List.length_nil, List.map_cons, List.map_nil, List.sum_cons, List.sum_nil, Nat.reduceAdd, Nat.reduceLeDiff, Value.category, Option.toList, true_or, or_true, z_ua, ↓reduceIte, Nat.reduceEqDiff, eq_self, not_true_eq_false, not_false_eq_true, false_implies, true_implies, Classical.not_not, Nat.le_refl, Nat.zero_le, z_b1 h3, sK5 hS, sG5_0 hS, sK6 hS]
        try dsimp only
        have h44 : ¬ (c < 400 ∧ (c = 0 ∨ I 9 (c - 1) ≤ d)) := fun q => by
          refine h ⟨hk, by rw [← f1]; exact h1, h2, ⟨Int32.not_lt.mp v1, Int32.not_lt.mp v2⟩, h3, q.1, ?_⟩
          by_cases z : c = 0
          · exact Or.inl z
          · obtain ⟨_, _, _, _, _, _, _, _, _, _, _, e⟩ := hled.2.1 (c - 1) (by omega)
            rw [← e]
            exact q.2
        refine z_callD (c44b (n := n) (I := I) (J := J) hS (day := d) hled.1 hc4 h44) (by omega) (by omega) (by omega) (Nat.le_of_ble_eq_true rfl) ?_
        try simp only [zW, z_wp1, z_ld, z_f0, z_f1, z_f2, z_f3, List.getElem?_cons_zero, List.getElem?_cons_succ, true_and, and_true, Int32.reduceOfInt, z_i10, z_i01, Int32.reduceLT, Int32.reduceLE, Int32.reduceAdd, Int32.reduceSub, z_set, z_set2, z_kil, List.set_cons_zero, List.set_cons_succ, List.take_succ_cons, List.take_zero, List.drop_succ_cons, List.drop_zero, List.reverse_cons, List.reverse_nil, List.nil_append, List.cons_append, List.getD_cons_succ, List.getD_cons_zero, List.getD_nil, List.length_cons, List.length_nil, List.map_cons, List.map_nil, List.sum_cons, List.sum_nil, Nat.reduceAdd, Nat.reduceLeDiff, Value.category, Option.toList, true_or, or_true, z_ua, ↓reduceIte, Nat.reduceEqDiff, eq_self, not_true_eq_false, not_false_eq_true, false_implies, true_implies, Classical.not_not, Nat.le_refl, Nat.zero_le]
        try dsimp only
        exact no'
      · refine z_callD (c153 (h := (n, K, L, I, J, G)) d) (by omega) (by omega) (by omega) (Nat.le_of_ble_eq_true rfl) ?_
        try simp only [zW, z_wp1, z_ld, z_f0, z_f1, z_f2, z_f3, List.getElem?_cons_zero, List.getElem?_cons_succ, true_and, and_true, Int32.reduceOfInt, z_i10, z_i01, Int32.reduceLT, Int32.reduceLE, Int32.reduceAdd, Int32.reduceSub, z_set, z_set2, z_kil, List.set_cons_zero, List.set_cons_succ, List.take_succ_cons, List.take_zero, List.drop_succ_cons, List.drop_zero, List.reverse_cons, List.reverse_nil, List.nil_append, List.cons_append, List.getD_cons_succ, List.getD_cons_zero, List.getD_nil, List.length_cons, List.length_nil, List.map_cons, List.map_nil, List.sum_cons, List.sum_nil, Nat.reduceAdd, Nat.reduceLeDiff, Value.category, Option.toList, true_or, or_true, z_ua, ↓reduceIte, Nat.reduceEqDiff, eq_self, not_true_eq_false, not_false_eq_true, false_implies, true_implies, Classical.not_not, Nat.le_refl, Nat.zero_le, z_b0 h3]
        try dsimp only
        exact no'
    · refine z_callD (c152 (h := (n, K, L, I, J, G)) m) (by omega) (by omega) (by omega) (Nat.le_of_ble_eq_true rfl) ?_
      try simp only [zW, z_wp1, z_ld, z_f0, z_f1, z_f2, z_f3, List.getElem?_cons_zero, List.getElem?_cons_succ, true_and, and_true, Int32.reduceOfInt, z_i10, z_i01, Int32.reduceLT, Int32.reduceLE, Int32.reduceAdd, Int32.reduceSub, z_set, z_set2, z_kil, List.set_cons_zero, List.set_cons_succ, List.take_succ_cons, List.take_zero, List.drop_succ_cons, List.drop_zero, List.reverse_cons, List.reverse_nil, List.nil_append, List.cons_append, List.getD_cons_succ, List.getD_cons_zero, List.getD_nil, List.length_cons, List.length_nil, List.map_cons, List.map_nil, List.sum_cons, List.sum_nil, Nat.reduceAdd, Nat.reduceLeDiff, Value.category, Option.toList, true_or, or_true, z_ua, ↓reduceIte, Nat.reduceEqDiff, eq_self, not_true_eq_false, not_false_eq_true, false_implies, true_implies, Classical.not_not, Nat.le_refl, Nat.zero_le, z_b0 h2]
      try dsimp only
      exact no
  · refine z_callD (c86 (I := I) (J := J) hS f) (by omega) (by omega) (by omega) (Nat.le_of_ble_eq_true rfl) ?_
    try simp only [zW, z_wp1, z_ld, z_f0, z_f1, z_f2, z_f3, List.getElem?_cons_zero, List.getElem?_cons_succ, true_and, and_true, Int32.reduceOfInt, z_i10, z_i01, Int32.reduceLT, Int32.reduceLE, Int32.reduceAdd, Int32.reduceSub, z_set, z_set2, z_kil, List.set_cons_zero, List.set_cons_succ, List.take_succ_cons, List.take_zero, List.drop_succ_cons, List.drop_zero, List.reverse_cons, List.reverse_nil, List.nil_append, List.cons_append, List.getD_cons_succ, List.getD_cons_zero, List.getD_nil, List.length_cons, List.length_nil, List.map_cons, List.map_nil, List.sum_cons, List.sum_nil, Nat.reduceAdd, Nat.reduceLeDiff, Value.category, Option.toList, true_or, or_true, z_ua, ↓reduceIte, Nat.reduceEqDiff, eq_self, not_true_eq_false, not_false_eq_true, false_implies, true_implies, Classical.not_not, Nat.le_refl, Nat.zero_le, z_b0 h1]
    try dsimp only
    exact no
end PUB7
