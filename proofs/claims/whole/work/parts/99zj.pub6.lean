/-! The public methods: view, tell -/
theorem m_kn_congr {tk tf tm tv td tk' tf' tm' tv' td' : Nat → Int32} {k f m d : Int32} : ∀ {c : Nat}, (∀ t, t < c → tk t = tk' t ∧ tf t = tf' t ∧ tm t = tm' t ∧ tv t = tv' t ∧ td t = td' t) → m_kn tk tf tm tv td k f m d c = m_kn tk' tf' tm' tv' td' k f m d c
  | 0, _ => rfl
  | c + 1, h => by
    obtain ⟨a, b, e, g, i⟩ := h c (by omega)
    rw [m_kn, m_kn, a, b, e, g, i, m_kn_congr (fun t ht => h t (by omega))]
/-- a telling more -/
def m_new (M M' : Nat → Nat → Int32) (c : Nat) (k f m v d : Int32) : Prop := ∀ t, M' 72 t = (if t = c then k else M 72 t) ∧ M' 73 t = (if t = c then f else M 73 t) ∧ M' 74 t = (if t = c then m else M 74 t) ∧ M' 75 t = (if t = c then v else M 75 t) ∧ M' 76 t = (if t = c then d else M 76 t)
theorem m_new.kn {M M' : Nat → Nat → Int32} {c : Nat} {k f m v d : Int32} (h : m_new M M' c k f m v d) (k' f' m' d' : Int32) : mI_kn M' (c + 1) k' f' m' d' = if k = k' ∧ f = f' ∧ m = m' ∧ d ≤ d' then v else mI_kn M c k' f' m' d' := by
  obtain ⟨a, b, e, g, i⟩ := h c
  rw [if_pos rfl] at a b e g i
  unfold mI_kn
  rw [m_kn, a, b, e, g, i, m_kn_congr (tk' := M 72) (tf' := M 73) (tm' := M 74) (tv' := M 75) (td' := M 76)]
  intro t ht
  obtain ⟨a, b, e, g, i⟩ := h t
  rw [if_neg (by omega)] at a b e g i
  exact ⟨a, b, e, g, i⟩
section PUB6
variable {l : Launch} {n : Nat} {K L : Nat → Nat} {I I' : Nat → Nat → Int32} {J : Nat → Nat → Int64} {G G' : Nat → Nat → Value} {M M' : Nat → Nat → Int32} {c F N c' F' N' : Nat} {tr tr' : Nat → (Int32 → Int32) → Int32} {cd cd' : Nat} {D : Nat → Nat} {ch rr : Nat}
theorem m_scale.mg (h : m_scale M N tr) (e1 : M' 71 17 = M 71 17) (e : ∀ q, 79 ≤ q → q ≤ 82 → M' q = M q) : m_scale M' N tr := by
  unfold m_scale m_code at *
  rw [e1, e 79 (by omega) (by omega), e 80 (by omega) (by omega), e 81 (by omega) (by omega), e 82 (by omega) (by omega)]
  exact h
theorem x_led.mg (h : x_led I M c) (e : ∀ q, 72 ≤ q → q ≤ 76 → M' q = M q) : x_led I M' c := by
  unfold x_led l_ok at *
  rw [e 72 (by omega) (by omega), e 73 (by omega) (by omega), e 74 (by omega) (by omega), e 75 (by omega) (by omega), e 76 (by omega) (by omega)]
  exact h
theorem x_tap.mg (h : x_tap I M) (e1 : M' 71 11 = M 71 11) (e : M' 77 = M 77) : x_tap I M' := by
  unfold x_tap at *
  rw [e1, e]
  exact h
theorem x_flt.mg (h : x_flt I M) (e1 : M' 71 28 = M 71 28) (e2 : M' 71 29 = M 71 29) : x_flt I M' := by
  unfold x_flt at *
  rw [e1, e2]
  exact h
/-- view -/
theorem d118a (hx : XI n K L I J G M c F N tr cd D ch rr) (hr : rr < 600) {k d : Int32} (hk : 0 ≤ k ∧ k ≤ 2) (hdd : 0 ≤ d ∧ d ≤ 999) : z_Ctr l 6 118 [.ref 5, .int k, .int d] (n, K, L, I, J, G) 0 0 (x_pq n I J (fun M' => mGd (fun k => k = 8 ∨ k = 9) (fun _ => False) M M' ∧ M' 71 8 = k ∧ M' 71 9 = d) c F N tr (rr + 1) (x_u L D) (.int 1)) := by
  have hS : SS K L G := hx.S
  have hx0 := hx
  obtain ⟨h0, h1, h2, h3, h4, h5, h6, h7, h8, h9, h10, h11⟩ := hx
  obtain ⟨a1, a2, a3, a4, a5, a6, a7, a8, a9, a10⟩ := h3
  obtain ⟨s1, s2, s3, s4, s5⟩ := h1.1
  have hcd : cd = 12 ∨ cd = 65 := h0.2.1.1
  have hk3 : k = 0 ∨ k = 1 ∨ k = 2 := by
    obtain ⟨m, hm, e⟩ := nI_of (x := k) (Int32.not_lt.mpr hk.1)
    have h2 := hk.2
    rw [e] at h2
    have := (nI_leI (a := m) (b := 2) hm (by omega)).mp h2
    have : m = 0 ∨ m = 1 ∨ m = 2 := by omega
    rcases this with rfl | rfl | rfl
    · exact Or.inl e
    · exact Or.inr (Or.inl e)
    · exact Or.inr (Or.inr e)
  have hsl : ∀ t, t < c → ∃ s, s < 192 ∧ I 7 t = nI s := fun t ht => by
    obtain ⟨k, f, m, x1, x2, x3, -, -, -, e, -⟩ := h2.2.1 t ht
    exact ⟨_, by omega, e⟩
  refine z_ctr (by decide) (by decide +kernel) (Nat.le_of_ble_eq_true rfl) (by decide +kernel) (fun X hl hj hd hm hs hsc hQ => ?_)
  show zV X 0 [some (.ref 5), some (.int k), some (.int d)] [] _ 0 0
  subst hl
  refine zW_ok hj B118_0 0 _ _ _ _ _ b118_0 ?_
  simp only [B118_0, zW, z_wp1, z_ld, z_f0, z_f1, z_f2, z_f3, List.getElem?_cons_zero, List.getElem?_cons_succ, true_and, and_true, Int32.reduceOfInt, z_i10, z_i01, Int32.reduceLT, Int32.reduceLE, Int32.reduceAdd, Int32.reduceSub, z_set, z_set2, z_kil, List.set_cons_zero, List.set_cons_succ, List.take_succ_cons, List.take_zero, List.drop_succ_cons, List.drop_zero, List.reverse_cons, List.reverse_nil, List.nil_append, List.cons_append, List.getD_cons_succ, List.getD_cons_zero, List.getD_nil, List.length_cons, List.length_nil, List.map_cons, List.map_nil, List.sum_cons, List.sum_nil, Nat.reduceAdd, Nat.reduceLeDiff, Value.category, Option.toList, true_or, or_true, z_ua, ↓reduceIte, Nat.reduceEqDiff, eq_self, not_true_eq_false, not_false_eq_true, false_implies, true_implies, Classical.not_not, Nat.le_refl, Nat.zero_le]
  try dsimp only
  refine z_callD (c154 (h := (n, K, L, I, J, G)) k) (by omega) (by omega) (by omega) (Nat.le_of_ble_eq_true rfl) ?_
  try simp only [zW, z_wp1, z_ld, z_f0, z_f1, z_f2, z_f3, List.getElem?_cons_zero, List.getElem?_cons_succ, true_and, and_true, Int32.reduceOfInt, z_i10, z_i01, Int32.reduceLT, Int32.reduceLE, Int32.reduceAdd, Int32.reduceSub, z_set, z_set2, z_kil, List.set_cons_zero, List.set_cons_succ, List.take_succ_cons, List.take_zero, List.drop_succ_cons, List.drop_zero, List.reverse_cons, List.reverse_nil, List.nil_append, List.cons_append, List.getD_cons_succ, List.getD_cons_zero, List.getD_nil, List.length_cons, List.length_nil, List.map_cons, List.map_nil, List.sum_cons, List.sum_nil, Nat.reduceAdd, Nat.reduceLeDiff, Value.category, Option.toList, true_or, or_true, z_ua, ↓reduceIte, Nat.reduceEqDiff, eq_self, not_true_eq_false, not_false_eq_true, false_implies, true_implies, Classical.not_not, Nat.le_refl, Nat.zero_le, z_b1 hk]
  try dsimp only
  refine z_callD (c153 (h := (n, K, L, I, J, G)) d) (by omega) (by omega) (by omega) (Nat.le_of_ble_eq_true rfl) ?_
  try simp only [zW, z_wp1, z_ld, z_f0, z_f1, z_f2, z_f3, List.getElem?_cons_zero, List.getElem?_cons_succ, true_and, and_true, Int32.reduceOfInt, z_i10, z_i01, Int32.reduceLT, Int32.reduceLE, Int32.reduceAdd, Int32.reduceSub, z_set, z_set2, z_kil, List.set_cons_zero, List.set_cons_succ, List.take_succ_cons, List.take_zero, List.drop_succ_cons, List.drop_zero, List.reverse_cons, List.reverse_nil, List.nil_append, List.cons_append, List.getD_cons_succ, List.getD_cons_zero, List.getD_nil, List.length_cons, List.length_nil, List.map_cons, List.map_nil, List.sum_cons, List.sum_nil, Nat.reduceAdd, Nat.reduceLeDiff, Value.category, Option.toList, true_or, or_true, z_ua, ↓reduceIte, Nat.reduceEqDiff, eq_self, not_true_eq_false, not_false_eq_true, false_implies, true_implies, Classical.not_not, Nat.le_refl, Nat.zero_le, z_b1 hdd]
  try dsimp only
  refine zW_ok hj B118_16 16 _ _ _ _ _ b118_16 ?_
  simp only [B118_16, zW, z_wp1, z_ld, z_f0, z_f1, z_f2, z_f3, List.getElem?_cons_zero, List.getElem?_cons_succ, true_and, and_true, Int32.reduceOfInt, z_i10, z_i01, Int32.reduceLT, Int32.reduceLE, Int32.reduceAdd, Int32.reduceSub, z_set, z_set2, z_kil, List.set_cons_zero, List.set_cons_succ, List.take_succ_cons, List.take_zero, List.drop_succ_cons, List.drop_zero, List.reverse_cons, List.reverse_nil, List.nil_append, List.cons_append, List.getD_cons_succ, List.getD_cons_zero, List.getD_nil, List.length_cons, List.length_nil, List.map_cons, List.map_nil, List.sum_cons, List.sum_nil, Nat.reduceAdd, Nat.reduceLeDiff, Value.category, Option.toList, true_or, or_true, z_ua, ↓reduceIte, Nat.reduceEqDiff, eq_self, not_true_eq_false, not_false_eq_true, false_implies, true_implies, Classical.not_not, Nat.le_refl, Nat.zero_le, sK5 hS, sG5_1 hS, sK10 hS, sG5_0 hS, sK6 hS]
  try dsimp only
  refine z_callQ (c93s (n := n) (J := J) hS h2.1 s2 hsl a1 s4 k d) (by omega) (by omega) (by omega) (Nat.le_of_ble_eq_true rfl) ?_
  rintro r h' ⟨rfl, I', rfl, o1, v1, v2, v3⟩
  generalize hI2 : z_u (z_u (z_u I' 10 1 k) 10 2 d) 10 10 (I 10 10 + 1) = I2
  have o0 : ∀ q, q ≠ 10 → I2 q = I' q := fun q hq => by rw [← hI2, z_u_ne hq, z_u_ne hq, z_u_ne hq]
  have o : ∀ q, q ≠ 10 → q ≠ 11 → q ≠ 18 → I2 q = I q := fun q x y z => by rw [o0 q x]; exact o1 q z y
  have ok : ∀ k, k ≠ 1 → k ≠ 2 → k ≠ 10 → I2 10 k = I 10 k := fun k k1 k2 k3 => by rw [← hI2, z_u_at, if_neg k3, z_u_at, if_neg k2, z_u_at, if_neg k1, o1 10 (by decide) (by decide)]
  simp only [zW, z_wp1, z_ld, z_f0, z_f1, z_f2, z_f3, List.getElem?_cons_zero, List.getElem?_cons_succ, true_and, and_true, Int32.reduceOfInt, z_i10, z_i01, Int32.reduceLT, Int32.reduceLE, Int32.reduceAdd, Int32.reduceSub, z_set, z_set2, z_kil, List.set_cons_zero, List.set_cons_succ, List.take_succ_cons, List.take_zero, List.drop_succ_cons, List.drop_zero, List.reverse_cons, List.reverse_nil, List.nil_append, List.cons_append, List.getD_cons_succ, List.getD_cons_zero, List.getD_nil, List.length_cons, List.length_nil, List.map_cons, List.map_nil, List.sum_cons, List.sum_nil, Nat.reduceAdd, Nat.reduceLeDiff, Value.category, Option.toList, true_or, or_true, z_ua, ↓reduceIte, Nat.reduceEqDiff, eq_self, not_true_eq_false, not_false_eq_true, false_implies, true_implies, Classical.not_not, Nat.le_refl, Nat.zero_le]
  try dsimp only
  refine hQ _ _ ⟨rfl, n, K, L, I2, J, G, cd, D, ch + 1, rfl, fun M' hP => ?_, hS, Nat.le_refl _, fun q a b => ⟨o q (by omega) (by omega) (by omega), rfl⟩, Nat.le_refl _⟩
  obtain ⟨hg, m1, m2⟩ := hP
  have gq : ∀ q, (72 ≤ q ∧ q ≤ 82) ∨ (90 ≤ q ∧ q ≤ 92) ∨ q = 97 → M' q = M q := fun q hq => hg.1 q hq (fun x => x)
  have gk : ∀ k, mQ k → ¬ (k = 8 ∨ k = 9) → M' 71 k = M 71 k := hg.2
  have ek : I2 10 1 = k := by rw [← hI2, z_u_at, if_neg (by decide), z_u_at, if_neg (by decide), z_u_at, if_pos rfl]
  have ed : I2 10 2 = d := by rw [← hI2, z_u_at, if_neg (by decide), z_u_at, if_pos rfl]
  have lk := l_kv_of (I' := I2) (q := 11) (d := d) h2.2 (fun s hs => by rw [o0 11 (by decide)]; exact v1 s hs)
  refine hx0.nw hr hS h0.2.1 (fun _ _ _ => rfl) (fun q hq => o q (by omega) (by omega) (by omega)) ⟨⟨by rw [gk _ (by unfold mQ; omega) (by decide)]; exact s1, s2, by rw [gk _ (by unfold mQ; omega) (by decide)]; exact s3, s4, s5.mg (gk _ (by unfold mQ; omega) (by decide)) (fun q _ _ => gq q (by omega))⟩, by rw [gq 78 (by omega)]; exact h1.2⟩ ((h2.cg (fun q _ _ => o q (by omega) (by omega) (by omega))).mg (fun q _ _ => gq q (by omega))) ⟨by rw [ok _ (by decide) (by decide) (by decide)]; exact a1, by rw [ek, m1], by rw [ed, m2], by rw [m1]; exact hk3, fun k f m hk hf hm => ?_, a6.congr (by rw [o cd (by omega) (by omega) (by omega)]) (o _ (by omega) (by omega) (by omega)) (o _ (by omega) (by omega) (by omega)), a7, fun f hf q => ?_, fun f hf => by rw [o0 18 (by omega), v3 f hf]; exact a9 f hf, ?_⟩ ((h4.cg (by rw [o 5 (by omega) (by omega) (by omega)]) (o 59 (by omega) (by omega) (by omega))).mg (gk _ (by unfold mQ; omega) (by decide)) (gq 77 (by omega))) ((h5.cg (o 60 (by omega) (by omega) (by omega))).mg (gk _ (by unfold mQ; omega) (by decide)) (gk _ (by unfold mQ; omega) (by decide))) (fun q _ _ => gq q (by omega)) (gk _ (by unfold mQ; omega) (by decide)) (gk _ (by unfold mQ; omega) (by decide)) (gk _ (by unfold mQ; omega) (by decide)) (gk _ (by unfold mQ; omega) (by decide)) (gq 97 (by omega))
  · rw [lk k f m hk hf hm, m2]
    unfold mI_kn
    rw [gq 72 (by omega), gq 73 (by omega), gq 74 (by omega), gq 75 (by omega), gq 76 (by omega)]
  · exact absurd (by rw [o0 18 (by omega)]; exact v2 f hf) q
  · rw [← hI2, z_u_at, if_pos rfl, a10]
    exact nI_add ch 1
theorem d118b (hx : XI n K L I J G M c F N tr cd D ch rr) (hr : rr < 600) {k d : Int32} (h : ¬ ((0 ≤ k ∧ k ≤ 2) ∧ (0 ≤ d ∧ d ≤ 999))) : z_Ctr l 6 118 [.ref 5, .int k, .int d] (n, K, L, I, J, G) 0 0 (x_po n I J M c F N tr (rr + 1) (x_u L D) (.int 0)) := by
  have hS : SS K L G := hx.S
  refine z_ctr (by decide) (by decide +kernel) (Nat.le_of_ble_eq_true rfl) (by decide +kernel) (fun X hl hj hd hm hs hsc hQ => ?_)
  show zV X 0 [some (.ref 5), some (.int k), some (.int d)] [] _ 0 0
  have no : zV X 14 [some (.ref 5), some (.int k), some (.int d)] [] (n, K, L, I, J, G) 0 0 := by
    refine zW_ok hj B118_14 14 _ _ _ _ _ b118_14 ?_
    simp only [B118_14, zW, z_wp1, z_ld, z_f0, z_f1, z_f2, z_f3, List.getElem?_cons_zero, List.getElem?_cons_succ, true_and, and_true, Int32.reduceOfInt, z_i10, z_i01, Int32.reduceLT, Int32.reduceLE, Int32.reduceAdd, Int32.reduceSub, z_set, z_set2, z_kil, List.set_cons_zero, List.set_cons_succ, List.take_succ_cons, List.take_zero, List.drop_succ_cons, List.drop_zero, List.reverse_cons, List.reverse_nil, List.nil_append, List.cons_append, List.getD_cons_succ, List.getD_cons_zero, List.getD_nil, List.length_cons, List.length_nil, List.map_cons, List.map_nil, List.sum_cons, List.sum_nil, Nat.reduceAdd, Nat.reduceLeDiff, Value.category, Option.toList, true_or, or_true, z_ua, ↓reduceIte, Nat.reduceEqDiff, eq_self, not_true_eq_false, not_false_eq_true, false_implies, true_implies, Classical.not_not, Nat.le_refl, Nat.zero_le]
    try dsimp only
    exact hQ _ _ (x_po.id hx hr _)
  refine zW_ok hj B118_0 0 _ _ _ _ _ b118_0 ?_
  simp only [B118_0, zW, z_wp1, z_ld, z_f0, z_f1, z_f2, z_f3, List.getElem?_cons_zero, List.getElem?_cons_succ, true_and, and_true, Int32.reduceOfInt, z_i10, z_i01, Int32.reduceLT, Int32.reduceLE, Int32.reduceAdd, Int32.reduceSub, z_set, z_set2, z_kil, List.set_cons_zero, List.set_cons_succ, List.take_succ_cons, List.take_zero, List.drop_succ_cons, List.drop_zero, List.reverse_cons, List.reverse_nil, List.nil_append, List.cons_append, List.getD_cons_succ, List.getD_cons_zero, List.getD_nil, List.length_cons, List.length_nil, List.map_cons, List.map_nil, List.sum_cons, List.sum_nil, Nat.reduceAdd, Nat.reduceLeDiff, Value.category, Option.toList, true_or, or_true, z_ua, ↓reduceIte, Nat.reduceEqDiff, eq_self, not_true_eq_false, not_false_eq_true, false_implies, true_implies, Classical.not_not, Nat.le_refl, Nat.zero_le]
  try dsimp only
  by_cases h1 : 0 ≤ k ∧ k ≤ 2
  · refine z_callD (c154 (h := (n, K, L, I, J, G)) k) (by omega) (by omega) (by omega) (Nat.le_of_ble_eq_true rfl) ?_
    try simp only [zW, z_wp1, z_ld, z_f0, z_f1, z_f2, z_f3, List.getElem?_cons_zero, List.getElem?_cons_succ, true_and, and_true, Int32.reduceOfInt, z_i10, z_i01, Int32.reduceLT, Int32.reduceLE, Int32.reduceAdd, Int32.reduceSub, z_set, z_set2, z_kil, List.set_cons_zero, List.set_cons_succ, List.take_succ_cons, List.take_zero, List.drop_succ_cons, List.drop_zero, List.reverse_cons, List.reverse_nil, List.nil_append, List.cons_append, List.getD_cons_succ, List.getD_cons_zero, List.getD_nil, List.length_cons, List.length_nil, List.map_cons, List.map_nil, List.sum_cons, List.sum_nil, Nat.reduceAdd, Nat.reduceLeDiff, Value.category, Option.toList, true_or, or_true, z_ua, ↓reduceIte, Nat.reduceEqDiff, eq_self, not_true_eq_false, not_false_eq_true, false_implies, true_implies, Classical.not_not, Nat.le_refl, Nat.zero_le, z_b1 h1]
    try dsimp only
    have h2 : ¬ (0 ≤ d ∧ d ≤ 999) := fun q => h ⟨h1, q⟩
    refine z_callD (c153 (h := (n, K, L, I, J, G)) d) (by omega) (by omega) (by omega) (Nat.le_of_ble_eq_true rfl) ?_
    try simp only [zW, z_wp1, z_ld, z_f0, z_f1, z_f2, z_f3, List.getElem?_cons_zero, List.getElem?_cons_succ, true_and, and_true, Int32.reduceOfInt, z_i10, z_i01, Int32.reduceLT, Int32.reduceLE, Int32.reduceAdd, Int32.reduceSub, z_set, z_set2, z_kil, List.set_cons_zero, List.set_cons_succ, List.take_succ_cons, List.take_zero, List.drop_succ_cons, List.drop_zero, List.reverse_cons, List.reverse_nil, List.nil_append, List.cons_append, List.getD_cons_succ, List.getD_cons_zero, List.getD_nil, List.length_cons, List.length_nil, List.map_cons, List.map_nil, List.sum_cons, List.sum_nil, Nat.reduceAdd, Nat.reduceLeDiff, Value.category, Option.toList, true_or, or_true, z_ua, ↓reduceIte, Nat.reduceEqDiff, eq_self, not_true_eq_false, not_false_eq_true, false_implies, true_implies, Classical.not_not, Nat.le_refl, Nat.zero_le, z_b0 h2]
    try dsimp only
    exact no
  · refine z_callD (c154 (h := (n, K, L, I, J, G)) k) (by omega) (by omega) (by omega) (Nat.le_of_ble_eq_true rfl) ?_
    try simp only [zW, z_wp1, z_ld, z_f0, z_f1, z_f2, z_f3, List.getElem?_cons_zero, List.getElem?_cons_succ, true_and, and_true, Int32.reduceOfInt, z_i10, z_i01, Int32.reduceLT, Int32.reduceLE, Int32.reduceAdd, Int32.reduceSub, z_set, z_set2, z_kil, List.set_cons_zero, List.set_cons_succ, List.take_succ_cons, List.take_zero, List.drop_succ_cons, List.drop_zero, List.reverse_cons, List.reverse_nil, List.nil_append, List.cons_append, List.getD_cons_succ, List.getD_cons_zero, List.getD_nil, List.length_cons, List.length_nil, List.map_cons, List.map_nil, List.sum_cons, List.sum_nil, Nat.reduceAdd, Nat.reduceLeDiff, Value.category, Option.toList, true_or, or_true, z_ua, ↓reduceIte, Nat.reduceEqDiff, eq_self, not_true_eq_false, not_false_eq_true, false_implies, true_implies, Classical.not_not, Nat.le_refl, Nat.zero_le, z_b0 h1]
    try dsimp only
    exact no
end PUB6
