/-! The public methods: quarrel -/
theorem m_sc1_cg {P P' : Nat → Prop} {v v' : Nat → Int32} {w : Int32} : ∀ (k i i' seen : Nat), (∀ j, j < k → (P (i + j) ↔ P' (i' + j)) ∧ v (i + j) = v' (i' + j)) → m_sc1 P v w k i seen = m_sc1 P' v' w k i' seen
  | 0, _, _, _, _ => rfl
  | k + 1, i, i', seen, h => by
    obtain ⟨h1, h2⟩ := h 0 (by omega)
    rw [Nat.add_zero, Nat.add_zero] at h1 h2
    have ih := fun s => m_sc1_cg (P := P) (P' := P') (v := v) (v' := v') (w := w) k (i + 1) (i' + 1) s (fun j hj => by have := h (j + 1) (by omega); rw [show i + 1 + j = i + (j + 1) by omega, show i' + 1 + j = i' + (j + 1) by omega]; exact this)
    rw [m_sc1, m_sc1]
    by_cases z : P i
    · rw [if_pos z, if_pos (h1.mp z), h2, ih]
    · rw [if_neg z, if_neg (fun q => z (h1.mpr q)), ih]
theorem m_sc1_add {P : Nat → Prop} {v : Nat → Int32} {w : Int32} (b : Nat) : ∀ (a i seen : Nat), m_sc1 P v w (a + b) i seen = match m_sc1 P v w a i seen with
    | .inl x => .inl x
    | .inr s => m_sc1 P v w b (i + a) s
  | 0, i, seen => by rw [Nat.zero_add]; rfl
  | a + 1, i, seen => by
    have ih := fun s => m_sc1_add (P := P) (v := v) (w := w) b a (i + 1) s
    rw [show a + 1 + b = (a + b) + 1 by omega, m_sc1, m_sc1]
    by_cases z : P i
    · rw [if_pos z, if_pos z]
      by_cases y : w = 10 + nI seen
      · rw [if_pos y, if_pos y]
      · rw [if_neg y, if_neg y, ih, show i + 1 + a = i + (a + 1) by omega]
    · rw [if_neg z, if_neg z, ih, show i + 1 + a = i + (a + 1) by omega]
/-- a scan's end -/
def m_se (w : Int32) : Int32 ⊕ Nat → Int32
  | .inl v => v
  | .inr s => if w = 0 then nI s else -1
/-- two loops as one -/
theorem m_sc2_one {P : Nat → Nat → Prop} {val : Nat → Nat → Int32} {w : Int32} {B : Nat} (hB : 0 < B) {P' : Nat → Prop} {v' : Nat → Int32} (h : ∀ f m, m < B → (P f m ↔ P' (B * f + m)) ∧ val f m = v' (B * f + m)) : ∀ (k f seen : Nat), m_sc2 P val w B k f seen = m_se w (m_sc1 P' v' w (B * k) (B * f) seen)
  | 0, f, seen => rfl
  | k + 1, f, seen => by
    rw [show B * (k + 1) = B + B * k by rw [Nat.mul_succ, Nat.add_comm], m_sc1_add, m_sc2, m_sc1_cg (P' := P') (v' := v') B 0 (B * f) seen (fun j hj => by rw [Nat.zero_add]; exact h f j hj)]
    cases m_sc1 P' v' w B (B * f) seen with
    | inl x => rfl
    | inr s =>
      show m_sc2 P val w B k (f + 1) s = _
      rw [m_sc2_one hB h k (f + 1) s, Nat.mul_succ]
theorem m_kn_b {tk tf tm tv td : Nat → Int32} {k f m d : Int32} : ∀ {c : Nat}, (∀ t, t < c → -1 ≤ tv t ∧ tv t ≤ 999) → -1 ≤ m_kn tk tf tm tv td k f m d c ∧ m_kn tk tf tm tv td k f m d c ≤ 999
  | 0, _ => by rw [m_kn]; decide
  | c + 1, h => by
    rw [m_kn]
    split
    · exact h c (by omega)
    · exact m_kn_b (fun t ht => h t (by omega))
theorem z_b999 {a : Int32} (h : -1 ≤ a ∧ a ≤ 999) (h1 : ¬ a = -1) : ∃ x, x < 1000 ∧ a = nI x := by
  have h0 : ¬ a < 0 := fun q => h1 (by
    have a1 : (-1 : Int32).toInt ≤ a.toInt := Int32.le_iff_toInt_le.mp h.1
    have a2 : a.toInt < (0 : Int32).toInt := Int32.lt_iff_toInt_lt.mp q
    have e1 : (-1 : Int32).toInt = -1 := by decide
    have e2 : (0 : Int32).toInt = 0 := by decide
    rw [e1] at a1
    rw [e2] at a2
    exact Int32.toInt_inj.mp (by rw [e1]; omega))
  obtain ⟨x, hx, e⟩ := nI_of h0
  have h2 := h.2
  rw [e] at h2
  have := (nI_leI (a := x) (b := 999) hx (by omega)).mp h2
  exact ⟨x, by omega, e⟩
/-- the greater less the smaller -/
theorem z_abs {x y : Nat} (hx : x < 1000) (hy : y < 1000) : (if 0 ≤ nI x - nI y then nI x - nI y else 0 - (nI x - nI y)) = if nI y < nI x then nI x - nI y else nI y - nI x := by
  by_cases h : y < x
  · rw [if_pos (nI_lt h (by omega)), nI_sub' (by omega), if_pos (nI_pos' (by omega))]
  · have n1 : ¬ nI y < nI x := fun q => h ((nI_ltI (by omega) (by omega)).mp q)
    rw [if_neg n1]
    have e : nI x - nI y = -(nI (y - x)) := by
      rw [← nI_sub' (show x ≤ y by omega), Int32.neg_sub]
    rw [e, nI_sub' (show x ≤ y by omega)]
    exact co_dec (N := 1000) (P := fun k => (if 0 ≤ -(nI k) then -(nI k) else 0 - -(nI k)) = nI k) (by decide +kernel) (show y - x < 1000 by omega)
section QUAR
variable {l : Launch} {n : Nat} {K L : Nat → Nat} {I I' : Nat → Nat → Int32} {J : Nat → Nat → Int64} {G : Nat → Nat → Value} {M : Nat → Nat → Int32} {c F N : Nat} {tr : Nat → (Int32 → Int32) → Int32} {cd : Nat} {D : Nat → Nat} {ch rr : Nat}
/-- what is only scribbled on -/
theorem XI.sk (hx : XI n K L I J G M c F N tr cd D ch rr) (o : ∀ q, q ≠ 19 → q ≠ 20 → q ≠ 69 → q ≠ 70 → q ≠ cd → q ≠ cd + 3 → I' q = I q) (o2 : I' cd 3 = I cd 3) : XI n K L I' J G M c F N tr cd D ch rr := by
  obtain ⟨h0, h1, h2, h3, h4, h5, h6, h7, h8, h9, h10, h11⟩ := hx
  have hcd : cd = 12 ∨ cd = 65 := h0.2.1.1
  have eq : ∀ q, q ≠ 19 → q ≠ 20 → q ≠ 69 → q ≠ 70 → q ≠ 12 → q ≠ 15 → q ≠ 65 → q ≠ 68 → I' q = I q := fun q a b c d e f g h => o q a b c d (by omega) (by omega)
  have hD : ∀ i, i < 10 → I' (D i) = I (D i) := fun i hi => by
    obtain ⟨p, h1, -, h2, -⟩ := h0.2.2.2.1.pl hi
    simp only [List.mem_cons, List.not_mem_nil, or_false] at h1
    exact eq _ (by omega) (by omega) (by omega) (by omega) (by omega) (by omega) (by omega) (by omega)
  have e : ∀ q, (q < 12 ∨ (16 ≤ q ∧ q ≤ 18) ∨ (22 ≤ q ∧ q < 65)) → I' q = I q := fun q hq => eq q (by omega) (by omega) (by omega) (by omega) (by omega) (by omega) (by omega) (by omega)
  exact ⟨h0, h1, h2.cg (fun q _ _ => e q (by omega)), h3.cg (e _ (by omega)) (e _ (by omega)) (e _ (by omega)) (e _ (by omega)) (e _ (by omega)) o2 (o _ (by omega) (by omega) (by omega) (by omega) (by omega) (by omega)) (o _ (by omega) (by omega) (by omega) (by omega) (by omega) (by omega)), h4.cg (by rw [e 5 (by omega)]) (e _ (by omega)), h5.cg (e _ (by omega)), h6.cg (e _ (by omega)) (hD 0 (by omega)) (hD 1 (by omega)) (hD 3 (by omega)), h7.cg (e _ (by omega)) (hD 4 (by omega)) (hD 5 (by omega)) (hD 7 (by omega)), h8.cg (e _ (by omega)) (e _ (by omega)) (e _ (by omega)) (e _ (by omega)), h9.cg (fun q _ _ => e q (by omega)) rfl rfl, h10.cg (fun q _ _ => e q (by omega)), h11.cg (fun q _ _ => e q (by omega)) (hD 9 (by omega))⟩
theorem c147_loop {X : zX} (hS : SS K L G) (hj : X.2.1 = 147) (hd : X.2.2.1 = 6) (hm : X.2.2.2.1 = 0) (hs : X.2.2.2.2.1 = 0) (f1 : I 10 0 = nI F) (f2 : F ≤ 16) {day by' w : Int32} (lk : l_kv I M c 69 day) (hb : ∀ t, t < c → -1 ≤ M 75 t ∧ M 75 t ≤ 999) {o : Int32 ⊕ Nat} (hQ : X.2.2.2.2.2.2 (some (.int (m_se w o))) (n, K, L, I, J, G)) : ∀ (k i seen : Nat) (x6 x7 : Option Value), i + k = 6 * F → m_sc1 (fun i => m_quar M c day by' (i / 6) (i % 6)) nI w k i seen = o → zV X 38 [some (.ref 5), some (.int day), some (.int by'), some (.int w), some (.int (nI seen)), some (.int (nI i)), x6, x7] [] (n, K, L, I, J, G) 0 0 := by
  intro k
  induction k with
  | zero =>
    intro i seen x6 x7 hi ho
    have e : nI F * 6 = nI (6 * F) := by rw [show (6 : Int32) = nI 6 from rfl, nI_mul, Nat.mul_comm]
    have c1 : nI (6 * F) ≤ nI i := by rw [show i = 6 * F by omega]; exact Int32.le_refl _
    subst ho
    rw [m_sc1] at hQ
    refine zW_ok hj B147_38 38 _ _ _ _ _ b147_38 ?_
    simp only [B147_38, zW, z_wp1, z_ld, z_f0, z_f1, z_f2, z_f3, List.getElem?_cons_zero, List.getElem?_cons_succ, true_and, and_true, Int32.reduceOfInt, z_i10, z_i01, Int32.reduceLT, Int32.reduceLE, Int32.reduceAdd, Int32.reduceSub, z_set, z_set2, z_kil, List.set_cons_zero, List.set_cons_succ, List.take_succ_cons, List.take_zero, List.drop_succ_cons, List.drop_zero, List.reverse_cons, List.reverse_nil, List.nil_append, List.cons_append, List.getD_cons_succ, List.getD_cons_zero, List.getD_nil, List.length_cons, List.length_nil, List.map_cons, List.map_nil, List.sum_cons, List.sum_nil, Nat.reduceAdd, Nat.reduceLeDiff, Value.category, Option.toList, true_or, or_true, z_ua, ↓reduceIte, Nat.reduceEqDiff, eq_self, not_true_eq_false, not_false_eq_true, false_implies, true_implies, Classical.not_not, Nat.le_refl, Nat.zero_le, sK5 hS, sG5_1 hS, sK10 hS, sK10 hS, f1, e, c1]
    try dsimp only
    refine zW_ok hj B147_119 119 _ _ _ _ _ b147_119 ?_
    simp only [B147_119, zW, z_wp1, z_ld, z_f0, z_f1, z_f2, z_f3, List.getElem?_cons_zero, List.getElem?_cons_succ, true_and, and_true, Int32.reduceOfInt, z_i10, z_i01, Int32.reduceLT, Int32.reduceLE, Int32.reduceAdd, Int32.reduceSub, z_set, z_set2, z_kil, List.set_cons_zero, List.set_cons_succ, List.take_succ_cons, List.take_zero, List.drop_succ_cons, List.drop_zero, List.reverse_cons, List.reverse_nil, List.nil_append, List.cons_append, List.getD_cons_succ, List.getD_cons_zero, List.getD_nil, List.length_cons, List.length_nil, List.map_cons, List.map_nil, List.sum_cons, List.sum_nil, Nat.reduceAdd, Nat.reduceLeDiff, Value.category, Option.toList, true_or, or_true, z_ua, ↓reduceIte, Nat.reduceEqDiff, eq_self, not_true_eq_false, not_false_eq_true, false_implies, true_implies, Classical.not_not, Nat.le_refl, Nat.zero_le]
    try dsimp only
    refine ⟨fun h1 => ?_, fun h1 => ?_⟩
    · refine zW_ok hj B147_128 128 _ _ _ _ _ b147_128 ?_
      simp only [B147_128, zW, z_wp1, z_ld, z_f0, z_f1, z_f2, z_f3, List.getElem?_cons_zero, List.getElem?_cons_succ, true_and, and_true, Int32.reduceOfInt, z_i10, z_i01, Int32.reduceLT, Int32.reduceLE, Int32.reduceAdd, Int32.reduceSub, z_set, z_set2, z_kil, List.set_cons_zero, List.set_cons_succ, List.take_succ_cons, List.take_zero, List.drop_succ_cons, List.drop_zero, List.reverse_cons, List.reverse_nil, List.nil_append, List.cons_append, List.getD_cons_succ, List.getD_cons_zero, List.getD_nil, List.length_cons, List.length_nil, List.map_cons, List.map_nil, List.sum_cons, List.sum_nil, Nat.reduceAdd, Nat.reduceLeDiff, Value.category, Option.toList, true_or, or_true, z_ua, ↓reduceIte, Nat.reduceEqDiff, eq_self, not_true_eq_false, not_false_eq_true, false_implies, true_implies, Classical.not_not, Nat.le_refl, Nat.zero_le]
      try dsimp only
      refine zW_ok hj B147_129 129 _ _ _ _ _ b147_129 ?_
      simp only [B147_129, zW, z_wp1, z_ld, z_f0, z_f1, z_f2, z_f3, List.getElem?_cons_zero, List.getElem?_cons_succ, true_and, and_true, Int32.reduceOfInt, z_i10, z_i01, Int32.reduceLT, Int32.reduceLE, Int32.reduceAdd, Int32.reduceSub, z_set, z_set2, z_kil, List.set_cons_zero, List.set_cons_succ, List.take_succ_cons, List.take_zero, List.drop_succ_cons, List.drop_zero, List.reverse_cons, List.reverse_nil, List.nil_append, List.cons_append, List.getD_cons_succ, List.getD_cons_zero, List.getD_nil, List.length_cons, List.length_nil, List.map_cons, List.map_nil, List.sum_cons, List.sum_nil, Nat.reduceAdd, Nat.reduceLeDiff, Value.category, Option.toList, true_or, or_true, z_ua, ↓reduceIte, Nat.reduceEqDiff, eq_self, not_true_eq_false, not_false_eq_true, false_implies, true_implies, Classical.not_not, Nat.le_refl, Nat.zero_le]
      try dsimp only
      rw [m_se, if_neg h1] at hQ
      exact hQ
    · refine zW_ok hj B147_129 129 _ _ _ _ _ b147_129 ?_
      simp only [B147_129, zW, z_wp1, z_ld, z_f0, z_f1, z_f2, z_f3, List.getElem?_cons_zero, List.getElem?_cons_succ, true_and, and_true, Int32.reduceOfInt, z_i10, z_i01, Int32.reduceLT, Int32.reduceLE, Int32.reduceAdd, Int32.reduceSub, z_set, z_set2, z_kil, List.set_cons_zero, List.set_cons_succ, List.take_succ_cons, List.take_zero, List.drop_succ_cons, List.drop_zero, List.reverse_cons, List.reverse_nil, List.nil_append, List.cons_append, List.getD_cons_succ, List.getD_cons_zero, List.getD_nil, List.length_cons, List.length_nil, List.map_cons, List.map_nil, List.sum_cons, List.sum_nil, Nat.reduceAdd, Nat.reduceLeDiff, Value.category, Option.toList, true_or, or_true, z_ua, ↓reduceIte, Nat.reduceEqDiff, eq_self, not_true_eq_false, not_false_eq_true, false_implies, true_implies, Classical.not_not, Nat.le_refl, Nat.zero_le]
      try dsimp only
      rw [m_se, if_pos h1] at hQ
      exact hQ
  | succ k ih =>
    intro i seen x6 x7 hi ho
    have e : nI F * 6 = nI (6 * F) := by rw [show (6 : Int32) = nI 6 from rfl, nI_mul, Nat.mul_comm]
    have c1 : ¬ nI (6 * F) ≤ nI i := nI_ge (by omega) (by omega)
    have hlt : i < 96 := by omega
    have e2 : (nI i).toNatClampNeg = i := nI_clamp (by omega)
    have e3 : vp_in (nI i) 192 := vp_in_nI (by omega) (by omega)
    obtain ⟨p, hp⟩ : ∃ p, p = 96 + i := ⟨_, rfl⟩
    have e4 : (96 : Int32) + nI i = nI p := by rw [hp]; exact nI_add 96 i
    have e5 : (nI p).toNatClampNeg = p := nI_clamp (by omega)
    have e6 : vp_in (nI p) 192 := vp_in_nI (by omega) (by omega)
    obtain ⟨q6, hq6⟩ : ∃ q6, q6 = 6 * F := ⟨_, rfl⟩
    rw [← hq6] at e c1
    have la := lk 0 (i / 6) (i % 6) (by omega) (by omega) (by omega)
    have lb := lk 1 (i / 6) (i % 6) (by omega) (by omega) (by omega)
    rw [show 96 * 0 + 6 * (i / 6) + i % 6 = i by omega, show nI 0 = (0 : Int32) from rfl] at la
    rw [show 96 * 1 + 6 * (i / 6) + i % 6 = p by omega, show nI 1 = (1 : Int32) from rfl] at lb
    have ba := m_kn_b (tk := M 72) (tf := M 73) (tm := M 74) (td := M 76) (k := 0) (f := nI (i / 6)) (m := nI (i % 6)) (d := day) hb
    have bb := m_kn_b (tk := M 72) (tf := M 73) (tm := M 74) (td := M 76) (k := 1) (f := nI (i / 6)) (m := nI (i % 6)) (d := day) hb
    generalize ha : mI_kn M c 0 (nI (i / 6)) (nI (i % 6)) day = a at la
    generalize hb' : mI_kn M c 1 (nI (i / 6)) (nI (i % 6)) day = b at lb
    have ba' : -1 ≤ a ∧ a ≤ 999 := by rw [← ha]; exact ba
    have bb' : -1 ≤ b ∧ b ≤ 999 := by rw [← hb']; exact bb
    have hP : m_quar M c day by' (i / 6) (i % 6) ↔ (¬ a = -1 ∧ ¬ b = -1 ∧ by' < (if b < a then a - b else b - a)) := by unfold m_quar; rw [ha, hb']
    rw [m_sc1] at ho
    have go : ∀ (seen' : Nat) (x6 x7 : Option Value), m_sc1 (fun i => m_quar M c day by' (i / 6) (i % 6)) nI w k (i + 1) seen' = o → zV X 113 [some (.ref 5), some (.int day), some (.int by'), some (.int w), some (.int (nI seen')), some (.int (nI i)), x6, x7] [] (n, K, L, I, J, G) 0 0 := by
      intro seen' x6 x7 h'
      refine zW_ok hj B147_113 113 _ _ _ _ _ b147_113 ?_
      simp only [B147_113, zW, z_wp1, z_ld, z_f0, z_f1, z_f2, z_f3, List.getElem?_cons_zero, List.getElem?_cons_succ, true_and, and_true, Int32.reduceOfInt, z_i10, z_i01, Int32.reduceLT, Int32.reduceLE, Int32.reduceAdd, Int32.reduceSub, z_set, z_set2, z_kil, List.set_cons_zero, List.set_cons_succ, List.take_succ_cons, List.take_zero, List.drop_succ_cons, List.drop_zero, List.reverse_cons, List.reverse_nil, List.nil_append, List.cons_append, List.getD_cons_succ, List.getD_cons_zero, List.getD_nil, List.length_cons, List.length_nil, List.map_cons, List.map_nil, List.sum_cons, List.sum_nil, Nat.reduceAdd, Nat.reduceLeDiff, Value.category, Option.toList, true_or, or_true, z_ua, ↓reduceIte, Nat.reduceEqDiff, eq_self, not_true_eq_false, not_false_eq_true, false_implies, true_implies, Classical.not_not, Nat.le_refl, Nat.zero_le]
      try dsimp only
      rw [show nI i + 1 = nI (i + 1) from nI_add i 1]
      exact ih (i + 1) seen' x6 x7 (by omega) h'
    refine zW_ok hj B147_38 38 _ _ _ _ _ b147_38 ?_
    simp only [B147_38, zW, z_wp1, z_ld, z_f0, z_f1, z_f2, z_f3, List.getElem?_cons_zero, List.getElem?_cons_succ, true_and, and_true, Int32.reduceOfInt, z_i10, z_i01, Int32.reduceLT, Int32.reduceLE, Int32.reduceAdd, Int32.reduceSub, z_set, z_set2, z_kil, List.set_cons_zero, List.set_cons_succ, List.take_succ_cons, List.take_zero, List.drop_succ_cons, List.drop_zero, List.reverse_cons, List.reverse_nil, List.nil_append, List.cons_append, List.getD_cons_succ, List.getD_cons_zero, List.getD_nil, List.length_cons, List.length_nil, List.map_cons, List.map_nil, List.sum_cons, List.sum_nil, Nat.reduceAdd, Nat.reduceLeDiff, Value.category, Option.toList, true_or, or_true, z_ua, ↓reduceIte, Nat.reduceEqDiff, eq_self, not_true_eq_false, not_false_eq_true, false_implies, true_implies, Classical.not_not, Nat.le_refl, Nat.zero_le, sK5 hS, sG5_1 hS, sK10 hS, sK10 hS, f1, e, c1, sG5_10 hS, sK69 hS, sL69 hS, e3, e4, e6]
    try dsimp only
    rw [e2, e5, la, lb]
    refine ⟨fun h1 => ?_, fun h1 => ⟨fun h2 => ?_, fun h2 => ?_⟩⟩
    · rw [if_neg (fun q => (hP.mp q).1 h1)] at ho
      exact go seen _ _ ho
    · rw [if_neg (fun q => (hP.mp q).2.1 h2)] at ho
      exact go seen _ _ ho
    obtain ⟨x, hx, rfl⟩ := z_b999 ba' h1
    obtain ⟨y, hy, rfl⟩ := z_b999 bb' h2
    rw [z_abs hx hy]
    refine ⟨by omega, fun h3 => ?_, fun h3 => ?_⟩
    · rw [if_neg (fun q => Int32.not_lt.mpr h3 (hP.mp q).2.2)] at ho
      exact go seen _ _ ho
    rw [if_pos (hP.mpr ⟨h1, h2, Int32.not_le.mp h3⟩)] at ho
    refine ⟨fun h4 => ?_, fun h4 => ?_⟩
    · rw [if_neg h4] at ho
      refine zW_ok hj B147_110 110 _ _ _ _ _ b147_110 ?_
      simp only [B147_110, zW, z_wp1, z_ld, z_f0, z_f1, z_f2, z_f3, List.getElem?_cons_zero, List.getElem?_cons_succ, true_and, and_true, Int32.reduceOfInt, z_i10, z_i01, Int32.reduceLT, Int32.reduceLE, Int32.reduceAdd, Int32.reduceSub, z_set, z_set2, z_kil, List.set_cons_zero, List.set_cons_succ, List.take_succ_cons, List.take_zero, List.drop_succ_cons, List.drop_zero, List.reverse_cons, List.reverse_nil, List.nil_append, List.cons_append, List.getD_cons_succ, List.getD_cons_zero, List.getD_nil, List.length_cons, List.length_nil, List.map_cons, List.map_nil, List.sum_cons, List.sum_nil, Nat.reduceAdd, Nat.reduceLeDiff, Value.category, Option.toList, true_or, or_true, z_ua, ↓reduceIte, Nat.reduceEqDiff, eq_self, not_true_eq_false, not_false_eq_true, false_implies, true_implies, Classical.not_not, Nat.le_refl, Nat.zero_le]
      try dsimp only
      rw [show nI seen + 1 = nI (seen + 1) from nI_add seen 1]
      exact go (seen + 1) _ _ ho
    · rw [if_pos h4] at ho
      rw [← ho] at hQ
      exact hQ
/-- quarrel -/
theorem d147a (hx : XI n K L I J G M c F N tr cd D ch rr) (hr : rr < 600) {day by' w : Int32} (hday : 0 ≤ day ∧ day ≤ 999) (hby : 0 ≤ by' ∧ by' ≤ 999) : z_Ctr l 6 147 [.ref 5, .int day, .int by', .int w] (n, K, L, I, J, G) 0 0 (x_po n I J M c F N tr (rr + 1) (x_u L D) (.int (m_sc2 (m_quar M c day by') (fun f m => 6 * nI f + nI m) w 6 F 0 0))) := by
  have hS : SS K L G := hx.S
  have hcd : cd = 12 ∨ cd = 65 := hx.1.2.1.1
  have hled := hx.2.2.1
  obtain ⟨f1, f2, f3, f4⟩ := hx.fn
  have n1 : ¬ by' < 0 := Int32.not_lt.mpr hby.1
  have n2 : by' ≤ 999 := hby.2
  have hsl : ∀ t, t < c → ∃ s, s < 192 ∧ I 7 t = nI s := fun t ht => by
    obtain ⟨k, f, m, x1, x2, x3, -, -, -, e, -⟩ := hled.2.1 t ht
    exact ⟨_, by omega, e⟩
  have flat := m_sc2_one (P := m_quar M c day by') (val := fun f m => 6 * nI f + nI m) (w := w) (B := 6) (by omega) (P' := fun i => m_quar M c day by' (i / 6) (i % 6)) (v' := nI) (fun f m hm => ⟨by rw [show (6 * f + m) / 6 = f by omega, show (6 * f + m) % 6 = m by omega], by show (6 : Int32) * nI f + nI m = _; rw [show (6 : Int32) = nI 6 from rfl, nI_mul, nI_add]⟩) F 0 0
  refine z_ctr (by decide) (by decide +kernel) (Nat.le_of_ble_eq_true rfl) (by decide +kernel) (fun X hl hj hd hm hs hsc hQ => ?_)
  show zV X 0 [some (.ref 5), some (.int day), some (.int by'), some (.int w), none, none, none, none] [] _ 0 0
  subst hl
  refine zW_ok hj B147_0 0 _ _ _ _ _ b147_0 ?_
  simp only [B147_0, zW, z_wp1, z_ld, z_f0, z_f1, z_f2, z_f3, List.getElem?_cons_zero, List.getElem?_cons_succ, true_and, and_true, Int32.reduceOfInt, z_i10, z_i01, Int32.reduceLT, Int32.reduceLE, Int32.reduceAdd, Int32.reduceSub, z_set, z_set2, z_kil, List.set_cons_zero, List.set_cons_succ, List.take_succ_cons, List.take_zero, List.drop_succ_cons, List.drop_zero, List.reverse_cons, List.reverse_nil, List.nil_append, List.cons_append, List.getD_cons_succ, List.getD_cons_zero, List.getD_nil, List.length_cons, List.length_nil, List.map_cons, List.map_nil, List.sum_cons, List.sum_nil, Nat.reduceAdd, Nat.reduceLeDiff, Value.category, Option.toList, true_or, or_true, z_ua, ↓reduceIte, Nat.reduceEqDiff, eq_self, not_true_eq_false, not_false_eq_true, false_implies, true_implies, Classical.not_not, Nat.le_refl, Nat.zero_le]
  try dsimp only
  refine z_callD (c153 (h := (n, K, L, I, J, G)) day) (by omega) (by omega) (by omega) (Nat.le_of_ble_eq_true rfl) ?_
  try simp only [zW, z_wp1, z_ld, z_f0, z_f1, z_f2, z_f3, List.getElem?_cons_zero, List.getElem?_cons_succ, true_and, and_true, Int32.reduceOfInt, z_i10, z_i01, Int32.reduceLT, Int32.reduceLE, Int32.reduceAdd, Int32.reduceSub, z_set, z_set2, z_kil, List.set_cons_zero, List.set_cons_succ, List.take_succ_cons, List.take_zero, List.drop_succ_cons, List.drop_zero, List.reverse_cons, List.reverse_nil, List.nil_append, List.cons_append, List.getD_cons_succ, List.getD_cons_zero, List.getD_nil, List.length_cons, List.length_nil, List.map_cons, List.map_nil, List.sum_cons, List.sum_nil, Nat.reduceAdd, Nat.reduceLeDiff, Value.category, Option.toList, true_or, or_true, z_ua, ↓reduceIte, Nat.reduceEqDiff, eq_self, not_true_eq_false, not_false_eq_true, false_implies, true_implies, Classical.not_not, Nat.le_refl, Nat.zero_le, z_b1 hday, n1, n2]
  try dsimp only
  refine zW_ok hj B147_20 20 _ _ _ _ _ b147_20 ?_
  simp only [B147_20, zW, z_wp1, z_ld, z_f0, z_f1, z_f2, z_f3, List.getElem?_cons_zero, List.getElem?_cons_succ, true_and, and_true, Int32.reduceOfInt, z_i10, z_i01, Int32.reduceLT, Int32.reduceLE, Int32.reduceAdd, Int32.reduceSub, z_set, z_set2, z_kil, List.set_cons_zero, List.set_cons_succ, List.take_succ_cons, List.take_zero, List.drop_succ_cons, List.drop_zero, List.reverse_cons, List.reverse_nil, List.nil_append, List.cons_append, List.getD_cons_succ, List.getD_cons_zero, List.getD_nil, List.length_cons, List.length_nil, List.map_cons, List.map_nil, List.sum_cons, List.sum_nil, Nat.reduceAdd, Nat.reduceLeDiff, Value.category, Option.toList, true_or, or_true, z_ua, ↓reduceIte, Nat.reduceEqDiff, eq_self, not_true_eq_false, not_false_eq_true, false_implies, true_implies, Classical.not_not, Nat.le_refl, Nat.zero_le, sK5 hS, sG5_0 hS, sK6 hS, sG5_10 hS, sK69 hS, sL69 hS]
  try dsimp only
  refine z_callQ (c46 (l := X.1) (n := n) (J := J) hS (p := 69) (day := day) (by omega) hled.1 hx.2.1.1.2.1 hsl) (by omega) (by omega) (by omega) (Nat.le_of_ble_eq_true rfl) ?_
  rintro r h' ⟨rfl, I1, rfl, o1, v1⟩
  have hx1 : XI n K L I1 J G M c F N tr cd D ch rr := hx.sk (fun q _ _ h _ _ _ => o1 q h) (by rw [o1 cd (by omega)])
  simp only [zW, z_wp1, z_ld, z_f0, z_f1, z_f2, z_f3, List.getElem?_cons_zero, List.getElem?_cons_succ, true_and, and_true, Int32.reduceOfInt, z_i10, z_i01, Int32.reduceLT, Int32.reduceLE, Int32.reduceAdd, Int32.reduceSub, z_set, z_set2, z_kil, List.set_cons_zero, List.set_cons_succ, List.take_succ_cons, List.take_zero, List.drop_succ_cons, List.drop_zero, List.reverse_cons, List.reverse_nil, List.nil_append, List.cons_append, List.getD_cons_succ, List.getD_cons_zero, List.getD_nil, List.length_cons, List.length_nil, List.map_cons, List.map_nil, List.sum_cons, List.sum_nil, Nat.reduceAdd, Nat.reduceLeDiff, Value.category, Option.toList, true_or, or_true, z_ua, ↓reduceIte, Nat.reduceEqDiff, eq_self, not_true_eq_false, not_false_eq_true, false_implies, true_implies, Classical.not_not, Nat.le_refl, Nat.zero_le]
  try dsimp only
  rw [flat] at hQ
  exact (c147_loop (I := I1) (M := M) (c := c) hS hj hd hm hs hx1.fn.1 f2 (l_kv_of hled.2 v1) hled.2.2.2 (hQ _ _ (x_po.same hx hr hx1 (fun q a _ => o1 q (by omega)) _)) (6 * F) 0 0 none none (by omega) rfl).weak (by simp only [z_le]; simp [nI_0])
theorem d147b (hx : XI n K L I J G M c F N tr cd D ch rr) (hr : rr < 600) {day by' w : Int32} (h : ¬ ((0 ≤ day ∧ day ≤ 999) ∧ (0 ≤ by' ∧ by' ≤ 999))) : z_Ctr l 6 147 [.ref 5, .int day, .int by', .int w] (n, K, L, I, J, G) 0 0 (x_po n I J M c F N tr (rr + 1) (x_u L D) (.int (-1))) := by
  have hS : SS K L G := hx.S
  refine z_ctr (by decide) (by decide +kernel) (Nat.le_of_ble_eq_true rfl) (by decide +kernel) (fun X hl hj hd hm hs hsc hQ => ?_)
  show zV X 0 [some (.ref 5), some (.int day), some (.int by'), some (.int w), none, none, none, none] [] _ 0 0
  have no : zV X 18 [some (.ref 5), some (.int day), some (.int by'), some (.int w), none, none, none, none] [] (n, K, L, I, J, G) 0 0 := by
    refine zW_ok hj B147_18 18 _ _ _ _ _ b147_18 ?_
    simp only [B147_18, zW, z_wp1, z_ld, z_f0, z_f1, z_f2, z_f3, List.getElem?_cons_zero, List.getElem?_cons_succ, true_and, and_true, Int32.reduceOfInt, z_i10, z_i01, Int32.reduceLT, Int32.reduceLE, Int32.reduceAdd, Int32.reduceSub, z_set, z_set2, z_kil, List.set_cons_zero, List.set_cons_succ, List.take_succ_cons, List.take_zero, List.drop_succ_cons, List.drop_zero, List.reverse_cons, List.reverse_nil, List.nil_append, List.cons_append, List.getD_cons_succ, List.getD_cons_zero, List.getD_nil, List.length_cons, List.length_nil, List.map_cons, List.map_nil, List.sum_cons, List.sum_nil, Nat.reduceAdd, Nat.reduceLeDiff, Value.category, Option.toList, true_or, or_true, z_ua, ↓reduceIte, Nat.reduceEqDiff, eq_self, not_true_eq_false, not_false_eq_true, false_implies, true_implies, Classical.not_not, Nat.le_refl, Nat.zero_le]
    try dsimp only
    exact hQ _ _ (x_po.id hx hr _)
  refine zW_ok hj B147_0 0 _ _ _ _ _ b147_0 ?_
  simp only [B147_0, zW, z_wp1, z_ld, z_f0, z_f1, z_f2, z_f3, List.getElem?_cons_zero, List.getElem?_cons_succ, true_and, and_true, Int32.reduceOfInt, z_i10, z_i01, Int32.reduceLT, Int32.reduceLE, Int32.reduceAdd, Int32.reduceSub, z_set, z_set2, z_kil, List.set_cons_zero, List.set_cons_succ, List.take_succ_cons, List.take_zero, List.drop_succ_cons, List.drop_zero, List.reverse_cons, List.reverse_nil, List.nil_append, List.cons_append, List.getD_cons_succ, List.getD_cons_zero, List.getD_nil, List.length_cons, List.length_nil, List.map_cons, List.map_nil, List.sum_cons, List.sum_nil, Nat.reduceAdd, Nat.reduceLeDiff, Value.category, Option.toList, true_or, or_true, z_ua, ↓reduceIte, Nat.reduceEqDiff, eq_self, not_true_eq_false, not_false_eq_true, false_implies, true_implies, Classical.not_not, Nat.le_refl, Nat.zero_le]
  try dsimp only
  by_cases h1 : 0 ≤ day ∧ day ≤ 999
  · refine z_callD (c153 (h := (n, K, L, I, J, G)) day) (by omega) (by omega) (by omega) (Nat.le_of_ble_eq_true rfl) ?_
    try simp only [zW, z_wp1, z_ld, z_f0, z_f1, z_f2, z_f3, List.getElem?_cons_zero, List.getElem?_cons_succ, true_and, and_true, Int32.reduceOfInt, z_i10, z_i01, Int32.reduceLT, Int32.reduceLE, Int32.reduceAdd, Int32.reduceSub, z_set, z_set2, z_kil, List.set_cons_zero, List.set_cons_succ, List.take_succ_cons, List.take_zero, List.drop_succ_cons, List.drop_zero, List.reverse_cons, List.reverse_nil, List.nil_append, List.cons_append, List.getD_cons_succ, List.getD_cons_zero, List.getD_nil, List.length_cons, List.length_nil, List.map_cons, List.map_nil, List.sum_cons, List.sum_nil, Nat.reduceAdd, Nat.reduceLeDiff, Value.category, Option.toList, true_or, or_true, z_ua, ↓reduceIte, Nat.reduceEqDiff, eq_self, not_true_eq_false, not_false_eq_true, false_implies, true_implies, Classical.not_not, Nat.le_refl, Nat.zero_le, z_b1 h1]
    try dsimp only
    exact ⟨fun _ => no, fun h2 => ⟨fun h3 => absurd ⟨h1, Int32.not_lt.mp h2, h3⟩ h, fun _ => no⟩⟩
  · refine z_callD (c153 (h := (n, K, L, I, J, G)) day) (by omega) (by omega) (by omega) (Nat.le_of_ble_eq_true rfl) ?_
    try simp only [zW, z_wp1, z_ld, z_f0, z_f1, z_f2, z_f3, List.getElem?_cons_zero, List.getElem?_cons_succ, true_and, and_true, Int32.reduceOfInt, z_i10, z_i01, Int32.reduceLT, Int32.reduceLE, Int32.reduceAdd, Int32.reduceSub, z_set, z_set2, z_kil, List.set_cons_zero, List.set_cons_succ, List.take_succ_cons, List.take_zero, List.drop_succ_cons, List.drop_zero, List.reverse_cons, List.reverse_nil, List.nil_append, List.cons_append, List.getD_cons_succ, List.getD_cons_zero, List.getD_nil, List.length_cons, List.length_nil, List.map_cons, List.map_nil, List.sum_cons, List.sum_nil, Nat.reduceAdd, Nat.reduceLeDiff, Value.category, Option.toList, true_or, or_true, z_ua, ↓reduceIte, Nat.reduceEqDiff, eq_self, not_true_eq_false, not_false_eq_true, false_implies, true_implies, Classical.not_not, Nat.le_refl, Nat.zero_le, z_b0 h1]
    try dsimp only
    exact no
end QUAR
