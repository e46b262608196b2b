/-! The class: reckon, truth -/
/-- the stack, whether a value is missing -/
def x_S (I : Nat → Nat → Int32) (cd cc : Nat) (st : List Int32) (ms : Int32) : Prop := st.length ≤ 40 ∧ I cd 5 = nI st.length ∧ I cd 6 = ms ∧ ∀ t x, st[t]? = some x → I cc (st.length - 1 - t) = x
def x_off (I I' : Nat → Nat → Int32) (cd cc : Nat) : Prop := (∀ q, q ≠ cd → q ≠ cc → I' q = I q) ∧ ∀ k, k ≠ 5 → k ≠ 6 → I' cd k = I cd k
theorem x_off.rf (I : Nat → Nat → Int32) (cd cc : Nat) : x_off I I cd cc := ⟨fun _ _ _ => rfl, fun _ _ _ => rfl⟩
theorem x_off.tr {I I1 I2 : Nat → Nat → Int32} {cd cc : Nat} (h : x_off I I1 cd cc) (h2 : x_off I1 I2 cd cc) : x_off I I2 cd cc := ⟨fun q a b => (h2.1 q a b).trans (h.1 q a b), fun k a b => (h2.2 k a b).trans (h.2 k a b)⟩
theorem x_off.c {I : Nat → Nat → Int32} {cd cc : Nat} (k : Nat) (v : Int32) (hne : cd ≠ cc) : x_off I (z_u I cc k v) cd cc := ⟨fun q a b => z_u_ne b, fun k' a b => by rw [z_u_ne hne]⟩
theorem x_off.d {I : Nat → Nat → Int32} {cd cc : Nat} (k : Nat) (v : Int32) (hk : k = 5 ∨ k = 6) : x_off I (z_u I cd k v) cd cc := ⟨fun q a b => z_u_ne a, fun k' a b => by rw [z_u_at, if_neg (by omega)]⟩
theorem x_S_push {I : Nat → Nat → Int32} {cd cc : Nat} {st : List Int32} {ms v : Int32} (hne : cd ≠ cc) (h : x_S I cd cc st ms) (hl : st.length < 40) : x_S (z_u (z_u I cc st.length v) cd 5 (nI (st.length + 1))) cd cc (v :: st) ms := by
  obtain ⟨h1, h2, h3, h4⟩ := h
  refine ⟨by simp; omega, by simp [z_u], ?_, fun t x hx => ?_⟩
  · rw [z_u_at, if_neg (by decide), z_u_ne hne]; exact h3
  · rw [z_u_ne hne.symm, z_u_at]
    cases t with
    | zero =>
      rw [List.getElem?_cons_zero] at hx
      cases hx
      simp
    | succ t =>
      rw [List.getElem?_cons_succ] at hx
      have hlt := (List.getElem?_eq_some_iff.mp hx).1
      have e : ((v :: st).length - 1 - (t + 1)) = st.length - 1 - t := by simp only [List.length_cons]; omega
      rw [e, if_neg (by omega)]
      exact h4 t x hx
theorem x_S_pop {I : Nat → Nat → Int32} {cd cc : Nat} {x : Int32} {r : List Int32} {ms : Int32} (hne : cd ≠ cc) (h : x_S I cd cc (x :: r) ms) : I cc r.length = x ∧ r.length < 40 ∧ I cd 5 = nI (r.length + 1) ∧ x_S (z_u I cd 5 (nI r.length)) cd cc r ms := by
  obtain ⟨h1, h2, h3, h4⟩ := h
  have e0 := h4 0 x rfl
  simp only [List.length_cons] at h1 h2 e0
  refine ⟨by simpa using e0, by omega, h2, by omega, by simp [z_u], by rw [z_u_at, if_neg (by decide)]; exact h3, fun t y hy => ?_⟩
  have := h4 (t + 1) y (by simpa using hy)
  have e : ((x :: r).length - 1 - (t + 1)) = r.length - 1 - t := by simp only [List.length_cons]; omega
  rw [e] at this
  rw [z_u_ne hne.symm]
  exact this
theorem x_S_ms {I : Nat → Nat → Int32} {cd cc : Nat} {st : List Int32} {ms ms' : Int32} (hne : cd ≠ cc) (h : x_S I cd cc st ms) : x_S (z_u I cd 6 ms') cd cc st ms' := by
  obtain ⟨h1, h2, h3, h4⟩ := h
  exact ⟨h1, by rw [z_u_at, if_neg (by decide)]; exact h2, by simp [z_u], fun t x hx => by rw [z_u_ne hne.symm]; exact h4 t x hx⟩
/-- one code -/
noncomputable def x_step (kn : Int32 → Int32) (k a : Int32) (st : List Int32) (ms : Int32) : Option (List Int32 × Int32) :=
  if k = 17 then (if st.length < 40 then some (a :: st, ms) else none)
  else if k = 16 then (if st.length < 40 ∧ 0 ≤ a ∧ a < 6 then some (kn a :: st, z_b (¬ ms = 0 ∨ kn a = -1)) else none)
  else if k = 15 then (if st.length < 40 ∧ 0 ≤ a ∧ a < 6 then some (z_b (¬ kn a = -1) :: st, ms) else none)
  else if k = 14 then (match st with
    | x :: r => some (x_not x :: r, ms)
    | [] => none)
  else if k = 6 then (match st with
    | x :: r => if a = 0 then none else some (x / a :: r, ms)
    | [] => none)
  else (match st with
    | y :: x :: r => @ite _ (x_op k) (Classical.propDecidable _) (some ((@ite _ (¬ ms = 0 ∧ x_cmp k) (Classical.propDecidable _) 2 (x_join k x y)) :: r, @ite _ (¬ ms = 0 ∧ ¬ x_cmp k) (Classical.propDecidable _) 1 0)) none
    | _ => none)
section X4
variable {l : Launch} {n : Nat} {K L : Nat → Nat} {I : Nat → Nat → Int32} {J : Nat → Nat → Int64} {G : Nat → Nat → Value} {cd ca cb cc p : Nat}
abbrev x_Rk (n : Nat) (K L : Nat → Nat) (I : Nat → Nat → Int32) (J : Nat → Nat → Int64) (G : Nat → Nat → Value) (cd cc : Nat) (st' : List Int32) (ms' : Int32) : Option Value → zH → Prop := fun r h' => r = none ∧ ∃ I', h' = (n, K, L, I', J, G) ∧ x_off I I' cd cc ∧ x_S I' cd cc st' ms'
theorem c52_17 (hq : XQ K L G cd ca cb cc) {st : List Int32} {ms a : Int32} (hs0 : x_S I cd cc st ms) (hlt : st.length < 40) : z_Ctr l 2 52 [.ref cd, .int 17, .int a, .ref p] (n, K, L, I, J, G) 0 0 (x_Rk n K L I J G cd cc (a :: st) ms) := by
  obtain ⟨q1, q2, q3, q4, q5, q6, q7, q8, q9, q10, e1, e2, e3, e4, e5, e6, e7, e8, e9, e10, e11, e12⟩ := id hq
  refine z_ctr (by decide) (by decide +kernel) (Nat.le_of_ble_eq_true rfl) (by decide +kernel) (fun X hl hj hd hm hs hsc hQ => ?_)
  show zV X 0 [some (.ref cd), some (.int 17), some (.int a), some (.ref p), none, none] [] _ 0 0
  refine zW_ok hj B52_0 0 _ _ _ _ _ b52_0 ?_
  simp only [B52_0, zW, z_wp1, z_ld, z_f0, z_f1, z_f2, z_f3, List.getElem?_cons_zero, List.getElem?_cons_succ, z_tsw]
  refine ⟨fun q => absurd q (by decide), fun _ _ => ⟨64, rfl, ?_⟩⟩
  refine zW_ok hj B52_64 64 _ _ _ _ _ b52_64 ?_
  simp only [B52_64, zW, z_wp1, z_ld, z_f0, z_f1, z_f2, z_f3, List.getElem?_cons_zero, List.getElem?_cons_succ, true_and, and_true, Int32.reduceOfInt, z_i10, z_i01, Int32.reduceLT, Int32.reduceLE, Int32.reduceAdd, Int32.reduceSub, z_set, z_set2, z_kil, List.set_cons_zero, List.set_cons_succ, List.take_succ_cons, List.take_zero, List.drop_succ_cons, List.drop_zero, List.reverse_cons, List.reverse_nil, List.nil_append, List.cons_append, List.getD_cons_succ, List.getD_cons_zero, List.getD_nil, List.length_cons, List.length_nil, List.map_cons, List.map_nil, List.sum_cons, List.sum_nil, Nat.reduceAdd, Nat.reduceLeDiff, Value.category, Option.toList, true_or, or_true, z_ua, ↓reduceIte, Nat.reduceEqDiff, eq_self, not_true_eq_false, not_false_eq_true, false_implies, true_implies, Classical.not_not, Nat.le_refl, Nat.zero_le, q1]
  try dsimp only
  refine z_callD (c56 hq hs0.2.1 hlt a) (by omega) (by omega) (by omega) (Nat.le_of_ble_eq_true rfl) ?_
  try simp only [zW, z_wp1, z_ld, z_f0, z_f1, z_f2, z_f3, List.getElem?_cons_zero, List.getElem?_cons_succ, true_and, and_true, Int32.reduceOfInt, z_i10, z_i01, Int32.reduceLT, Int32.reduceLE, Int32.reduceAdd, Int32.reduceSub, z_set, z_set2, z_kil, List.set_cons_zero, List.set_cons_succ, List.take_succ_cons, List.take_zero, List.drop_succ_cons, List.drop_zero, List.reverse_cons, List.reverse_nil, List.nil_append, List.cons_append, List.getD_cons_succ, List.getD_cons_zero, List.getD_nil, List.length_cons, List.length_nil, List.map_cons, List.map_nil, List.sum_cons, List.sum_nil, Nat.reduceAdd, Nat.reduceLeDiff, Value.category, Option.toList, true_or, or_true, z_ua, ↓reduceIte, Nat.reduceEqDiff, eq_self, not_true_eq_false, not_false_eq_true, false_implies, true_implies, Classical.not_not, Nat.le_refl, Nat.zero_le]
  try dsimp only
  refine zW_ok hj B52_224 224 _ _ _ _ _ b52_224 ?_
  simp only [B52_224, zW, z_wp1, z_ld, z_f0, z_f1, z_f2, z_f3, List.getElem?_cons_zero, List.getElem?_cons_succ, true_and, and_true, Int32.reduceOfInt, z_i10, z_i01, Int32.reduceLT, Int32.reduceLE, Int32.reduceAdd, Int32.reduceSub, z_set, z_set2, z_kil, List.set_cons_zero, List.set_cons_succ, List.take_succ_cons, List.take_zero, List.drop_succ_cons, List.drop_zero, List.reverse_cons, List.reverse_nil, List.nil_append, List.cons_append, List.getD_cons_succ, List.getD_cons_zero, List.getD_nil, List.length_cons, List.length_nil, List.map_cons, List.map_nil, List.sum_cons, List.sum_nil, Nat.reduceAdd, Nat.reduceLeDiff, Value.category, Option.toList, true_or, or_true, z_ua, ↓reduceIte, Nat.reduceEqDiff, eq_self, not_true_eq_false, not_false_eq_true, false_implies, true_implies, Classical.not_not, Nat.le_refl, Nat.zero_le]
  try dsimp only
  exact hQ _ _ ⟨rfl, _, rfl, (x_off.c _ _ e5).tr (x_off.d _ _ (Or.inl rfl)), x_S_push e5 hs0 hlt⟩
theorem x_in6 {a : Int32} (h : 0 ≤ a ∧ a < 6) : vp_in a 6 := vp_in_iff.mpr (by
  have h1 := h.1; have h2 := h.2
  simp only [Int32.le_iff_toInt_le, Int32.lt_iff_toInt_lt, Int32.reduceToInt] at h1 h2
  omega)
theorem c52_16 (hq : XQ K L G cd ca cb cc) (hp : K p = 13 ∧ L p = 6 ∧ p ≠ cd ∧ p ≠ cc) {st : List Int32} {ms a : Int32} (hs0 : x_S I cd cc st ms) (hlt : st.length < 40) (ha : vp_in a 6) : z_Ctr l 2 52 [.ref cd, .int 16, .int a, .ref p] (n, K, L, I, J, G) 0 0 (x_Rk n K L I J G cd cc (I p a.toNatClampNeg :: st) (z_b (¬ ms = 0 ∨ I p a.toNatClampNeg = -1))) := by
  obtain ⟨q1, q2, q3, q4, q5, q6, q7, q8, q9, q10, e1, e2, e3, e4, e5, e6, e7, e8, e9, e10, e11, e12⟩ := id hq
  obtain ⟨p1, p2, p3, p4⟩ := hp
  have h3 := hs0.2.2.1
  refine z_ctr (by decide) (by decide +kernel) (Nat.le_of_ble_eq_true rfl) (by decide +kernel) (fun X hl hj hd hm hs hsc hQ => ?_)
  show zV X 0 [some (.ref cd), some (.int 16), some (.int a), some (.ref p), none, none] [] _ 0 0
  have fin : ∀ z : Int32, (z = 0 ∨ z = 1) → z = z_b (¬ ms = 0 ∨ I p a.toNatClampNeg = -1) → zV X 92 [some (.ref cd), some (.int 16), some (.int a), some (.ref p), none, none] [.int z, .ref cd] (n, K, L, I, J, G) 0 0 := by
    intro z h01 hz
    subst hz
    have hs1 := x_S_ms (ms' := z_b (¬ ms = 0 ∨ I p a.toNatClampNeg = -1)) e5 hs0
    refine zW_ok hj B52_92 92 _ _ _ _ _ b52_92 ?_
    simp only [B52_92, zW, z_wp1, z_ld, z_f0, z_f1, z_f2, z_f3, List.getElem?_cons_zero, List.getElem?_cons_succ, true_and, and_true, Int32.reduceOfInt, z_i10, z_i01, Int32.reduceLT, Int32.reduceLE, Int32.reduceAdd, Int32.reduceSub, z_set, z_set2, z_kil, List.set_cons_zero, List.set_cons_succ, List.take_succ_cons, List.take_zero, List.drop_succ_cons, List.drop_zero, List.reverse_cons, List.reverse_nil, List.nil_append, List.cons_append, List.getD_cons_succ, List.getD_cons_zero, List.getD_nil, List.length_cons, List.length_nil, List.map_cons, List.map_nil, List.sum_cons, List.sum_nil, Nat.reduceAdd, Nat.reduceLeDiff, Value.category, Option.toList, true_or, or_true, z_ua, ↓reduceIte, Nat.reduceEqDiff, eq_self, not_true_eq_false, not_false_eq_true, false_implies, true_implies, Classical.not_not, Nat.le_refl, Nat.zero_le, q1, p1, p2, p3, ha, h01]
    try dsimp only
    refine z_callD (c56 hq hs1.2.1 hlt (I p a.toNatClampNeg)) (by omega) (by omega) (by omega) (Nat.le_of_ble_eq_true rfl) ?_
    try simp only [zW, z_wp1, z_ld, z_f0, z_f1, z_f2, z_f3, List.getElem?_cons_zero, List.getElem?_cons_succ, true_and, and_true, Int32.reduceOfInt, z_i10, z_i01, Int32.reduceLT, Int32.reduceLE, Int32.reduceAdd, Int32.reduceSub, z_set, z_set2, z_kil, List.set_cons_zero, List.set_cons_succ, List.take_succ_cons, List.take_zero, List.drop_succ_cons, List.drop_zero, List.reverse_cons, List.reverse_nil, List.nil_append, List.cons_append, List.getD_cons_succ, List.getD_cons_zero, List.getD_nil, List.length_cons, List.length_nil, List.map_cons, List.map_nil, List.sum_cons, List.sum_nil, Nat.reduceAdd, Nat.reduceLeDiff, Value.category, Option.toList, true_or, or_true, z_ua, ↓reduceIte, Nat.reduceEqDiff, eq_self, not_true_eq_false, not_false_eq_true, false_implies, true_implies, Classical.not_not, Nat.le_refl, Nat.zero_le]
    try dsimp only
    refine zW_ok hj B52_224 224 _ _ _ _ _ b52_224 ?_
    simp only [B52_224, zW, z_wp1, z_ld, z_f0, z_f1, z_f2, z_f3, List.getElem?_cons_zero, List.getElem?_cons_succ, true_and, and_true, Int32.reduceOfInt, z_i10, z_i01, Int32.reduceLT, Int32.reduceLE, Int32.reduceAdd, Int32.reduceSub, z_set, z_set2, z_kil, List.set_cons_zero, List.set_cons_succ, List.take_succ_cons, List.take_zero, List.drop_succ_cons, List.drop_zero, List.reverse_cons, List.reverse_nil, List.nil_append, List.cons_append, List.getD_cons_succ, List.getD_cons_zero, List.getD_nil, List.length_cons, List.length_nil, List.map_cons, List.map_nil, List.sum_cons, List.sum_nil, Nat.reduceAdd, Nat.reduceLeDiff, Value.category, Option.toList, true_or, or_true, z_ua, ↓reduceIte, Nat.reduceEqDiff, eq_self, not_true_eq_false, not_false_eq_true, false_implies, true_implies, Classical.not_not, Nat.le_refl, Nat.zero_le]
    try dsimp only
    exact hQ _ _ ⟨rfl, _, rfl, ((x_off.d _ _ (Or.inr rfl)).tr (x_off.c _ _ e5)).tr (x_off.d _ _ (Or.inl rfl)), x_S_push e5 hs1 hlt⟩
  refine zW_ok hj B52_0 0 _ _ _ _ _ b52_0 ?_
  simp only [B52_0, zW, z_wp1, z_ld, z_f0, z_f1, z_f2, z_f3, List.getElem?_cons_zero, List.getElem?_cons_succ, z_tsw]
  refine ⟨fun q => absurd q (by decide), fun _ _ => ⟨72, rfl, ?_⟩⟩
  refine zW_ok hj B52_72 72 _ _ _ _ _ b52_72 ?_
  simp only [B52_72, zW, z_wp1, z_ld, z_f0, z_f1, z_f2, z_f3, List.getElem?_cons_zero, List.getElem?_cons_succ, true_and, and_true, Int32.reduceOfInt, z_i10, z_i01, Int32.reduceLT, Int32.reduceLE, Int32.reduceAdd, Int32.reduceSub, z_set, z_set2, z_kil, List.set_cons_zero, List.set_cons_succ, List.take_succ_cons, List.take_zero, List.drop_succ_cons, List.drop_zero, List.reverse_cons, List.reverse_nil, List.nil_append, List.cons_append, List.getD_cons_succ, List.getD_cons_zero, List.getD_nil, List.length_cons, List.length_nil, List.map_cons, List.map_nil, List.sum_cons, List.sum_nil, Nat.reduceAdd, Nat.reduceLeDiff, Value.category, Option.toList, true_or, or_true, z_ua, ↓reduceIte, Nat.reduceEqDiff, eq_self, not_true_eq_false, not_false_eq_true, false_implies, true_implies, Classical.not_not, Nat.le_refl, Nat.zero_le, q1, p1, p2, ha, h3]
  try dsimp only
  refine ⟨fun h1 => ?_, fun h1 => ⟨fun h2 => ?_, fun h2 => ?_⟩⟩
  · refine zW_ok hj B52_87 87 _ _ _ _ _ b52_87 ?_
    simp only [B52_87, zW, z_wp1, z_ld, z_f0, z_f1, z_f2, z_f3, List.getElem?_cons_zero, List.getElem?_cons_succ, true_and, and_true, Int32.reduceOfInt, z_i10, z_i01, Int32.reduceLT, Int32.reduceLE, Int32.reduceAdd, Int32.reduceSub, z_set, z_set2, z_kil, List.set_cons_zero, List.set_cons_succ, List.take_succ_cons, List.take_zero, List.drop_succ_cons, List.drop_zero, List.reverse_cons, List.reverse_nil, List.nil_append, List.cons_append, List.getD_cons_succ, List.getD_cons_zero, List.getD_nil, List.length_cons, List.length_nil, List.map_cons, List.map_nil, List.sum_cons, List.sum_nil, Nat.reduceAdd, Nat.reduceLeDiff, Value.category, Option.toList, true_or, or_true, z_ua, ↓reduceIte, Nat.reduceEqDiff, eq_self, not_true_eq_false, not_false_eq_true, false_implies, true_implies, Classical.not_not, Nat.le_refl, Nat.zero_le]
    try dsimp only
    exact fin 1 (Or.inr rfl) (z_b1 (Or.inl h1)).symm
  · refine zW_ok hj B52_91 91 _ _ _ _ _ b52_91 ?_
    simp only [B52_91, zW, z_wp1, z_ld, z_f0, z_f1, z_f2, z_f3, List.getElem?_cons_zero, List.getElem?_cons_succ, true_and, and_true, Int32.reduceOfInt, z_i10, z_i01, Int32.reduceLT, Int32.reduceLE, Int32.reduceAdd, Int32.reduceSub, z_set, z_set2, z_kil, List.set_cons_zero, List.set_cons_succ, List.take_succ_cons, List.take_zero, List.drop_succ_cons, List.drop_zero, List.reverse_cons, List.reverse_nil, List.nil_append, List.cons_append, List.getD_cons_succ, List.getD_cons_zero, List.getD_nil, List.length_cons, List.length_nil, List.map_cons, List.map_nil, List.sum_cons, List.sum_nil, Nat.reduceAdd, Nat.reduceLeDiff, Value.category, Option.toList, true_or, or_true, z_ua, ↓reduceIte, Nat.reduceEqDiff, eq_self, not_true_eq_false, not_false_eq_true, false_implies, true_implies, Classical.not_not, Nat.le_refl, Nat.zero_le]
    try dsimp only
    exact fin 0 (Or.inl rfl) (z_b0 (fun z => z.elim (fun q => q h1) h2)).symm
  · refine zW_ok hj B52_87 87 _ _ _ _ _ b52_87 ?_
    simp only [B52_87, zW, z_wp1, z_ld, z_f0, z_f1, z_f2, z_f3, List.getElem?_cons_zero, List.getElem?_cons_succ, true_and, and_true, Int32.reduceOfInt, z_i10, z_i01, Int32.reduceLT, Int32.reduceLE, Int32.reduceAdd, Int32.reduceSub, z_set, z_set2, z_kil, List.set_cons_zero, List.set_cons_succ, List.take_succ_cons, List.take_zero, List.drop_succ_cons, List.drop_zero, List.reverse_cons, List.reverse_nil, List.nil_append, List.cons_append, List.getD_cons_succ, List.getD_cons_zero, List.getD_nil, List.length_cons, List.length_nil, List.map_cons, List.map_nil, List.sum_cons, List.sum_nil, Nat.reduceAdd, Nat.reduceLeDiff, Value.category, Option.toList, true_or, or_true, z_ua, ↓reduceIte, Nat.reduceEqDiff, eq_self, not_true_eq_false, not_false_eq_true, false_implies, true_implies, Classical.not_not, Nat.le_refl, Nat.zero_le]
    try dsimp only
    exact fin 1 (Or.inr rfl) (z_b1 (Or.inr h2)).symm
theorem c52_15 (hq : XQ K L G cd ca cb cc) (hp : K p = 13 ∧ L p = 6 ∧ p ≠ cd ∧ p ≠ cc) {st : List Int32} {ms a : Int32} (hs0 : x_S I cd cc st ms) (hlt : st.length < 40) (ha : vp_in a 6) : z_Ctr l 2 52 [.ref cd, .int 15, .int a, .ref p] (n, K, L, I, J, G) 0 0 (x_Rk n K L I J G cd cc (z_b (¬ I p a.toNatClampNeg = -1) :: st) ms) := by
  obtain ⟨q1, q2, q3, q4, q5, q6, q7, q8, q9, q10, e1, e2, e3, e4, e5, e6, e7, e8, e9, e10, e11, e12⟩ := id hq
  obtain ⟨p1, p2, p3, p4⟩ := hp
  refine z_ctr (by decide) (by decide +kernel) (Nat.le_of_ble_eq_true rfl) (by decide +kernel) (fun X hl hj hd hm hs hsc hQ => ?_)
  show zV X 0 [some (.ref cd), some (.int 15), some (.int a), some (.ref p), none, none] [] _ 0 0
  have fin : ∀ z : Int32, z = z_b (¬ I p a.toNatClampNeg = -1) → zV X 118 [some (.ref cd), some (.int 15), some (.int a), some (.ref p), none, none] [.int z, .ref cd] (n, K, L, I, J, G) 0 0 := by
    intro z hz
    subst hz
    refine zW_ok hj B52_118 118 _ _ _ _ _ b52_118 ?_
    simp only [B52_118, zW, z_wp1, z_ld, z_f0, z_f1, z_f2, z_f3, List.getElem?_cons_zero, List.getElem?_cons_succ, true_and, and_true, Int32.reduceOfInt, z_i10, z_i01, Int32.reduceLT, Int32.reduceLE, Int32.reduceAdd, Int32.reduceSub, z_set, z_set2, z_kil, List.set_cons_zero, List.set_cons_succ, List.take_succ_cons, List.take_zero, List.drop_succ_cons, List.drop_zero, List.reverse_cons, List.reverse_nil, List.nil_append, List.cons_append, List.getD_cons_succ, List.getD_cons_zero, List.getD_nil, List.length_cons, List.length_nil, List.map_cons, List.map_nil, List.sum_cons, List.sum_nil, Nat.reduceAdd, Nat.reduceLeDiff, Value.category, Option.toList, true_or, or_true, z_ua, ↓reduceIte, Nat.reduceEqDiff, eq_self, not_true_eq_false, not_false_eq_true, false_implies, true_implies, Classical.not_not, Nat.le_refl, Nat.zero_le, q1]
    try dsimp only
    refine z_callD (c56 hq hs0.2.1 hlt (z_b (¬ I p a.toNatClampNeg = -1))) (by omega) (by omega) (by omega) (Nat.le_of_ble_eq_true rfl) ?_
    try simp only [zW, z_wp1, z_ld, z_f0, z_f1, z_f2, z_f3, List.getElem?_cons_zero, List.getElem?_cons_succ, true_and, and_true, Int32.reduceOfInt, z_i10, z_i01, Int32.reduceLT, Int32.reduceLE, Int32.reduceAdd, Int32.reduceSub, z_set, z_set2, z_kil, List.set_cons_zero, List.set_cons_succ, List.take_succ_cons, List.take_zero, List.drop_succ_cons, List.drop_zero, List.reverse_cons, List.reverse_nil, List.nil_append, List.cons_append, List.getD_cons_succ, List.getD_cons_zero, List.getD_nil, List.length_cons, List.length_nil, List.map_cons, List.map_nil, List.sum_cons, List.sum_nil, Nat.reduceAdd, Nat.reduceLeDiff, Value.category, Option.toList, true_or, or_true, z_ua, ↓reduceIte, Nat.reduceEqDiff, eq_self, not_true_eq_false, not_false_eq_true, false_implies, true_implies, Classical.not_not, Nat.le_refl, Nat.zero_le]
    try dsimp only
    refine zW_ok hj B52_224 224 _ _ _ _ _ b52_224 ?_
    simp only [B52_224, zW, z_wp1, z_ld, z_f0, z_f1, z_f2, z_f3, List.getElem?_cons_zero, List.getElem?_cons_succ, true_and, and_true, Int32.reduceOfInt, z_i10, z_i01, Int32.reduceLT, Int32.reduceLE, Int32.reduceAdd, Int32.reduceSub, z_set, z_set2, z_kil, List.set_cons_zero, List.set_cons_succ, List.take_succ_cons, List.take_zero, List.drop_succ_cons, List.drop_zero, List.reverse_cons, List.reverse_nil, List.nil_append, List.cons_append, List.getD_cons_succ, List.getD_cons_zero, List.getD_nil, List.length_cons, List.length_nil, List.map_cons, List.map_nil, List.sum_cons, List.sum_nil, Nat.reduceAdd, Nat.reduceLeDiff, Value.category, Option.toList, true_or, or_true, z_ua, ↓reduceIte, Nat.reduceEqDiff, eq_self, not_true_eq_false, not_false_eq_true, false_implies, true_implies, Classical.not_not, Nat.le_refl, Nat.zero_le]
    try dsimp only
    exact hQ _ _ ⟨rfl, _, rfl, (x_off.c _ _ e5).tr (x_off.d _ _ (Or.inl rfl)), x_S_push e5 hs0 hlt⟩
  refine zW_ok hj B52_0 0 _ _ _ _ _ b52_0 ?_
  simp only [B52_0, zW, z_wp1, z_ld, z_f0, z_f1, z_f2, z_f3, List.getElem?_cons_zero, List.getElem?_cons_succ, z_tsw]
  refine ⟨fun q => absurd q (by decide), fun _ _ => ⟨105, rfl, ?_⟩⟩
  refine zW_ok hj B52_105 105 _ _ _ _ _ b52_105 ?_
  simp only [B52_105, zW, z_wp1, z_ld, z_f0, z_f1, z_f2, z_f3, List.getElem?_cons_zero, List.getElem?_cons_succ, true_and, and_true, Int32.reduceOfInt, z_i10, z_i01, Int32.reduceLT, Int32.reduceLE, Int32.reduceAdd, Int32.reduceSub, z_set, z_set2, z_kil, List.set_cons_zero, List.set_cons_succ, List.take_succ_cons, List.take_zero, List.drop_succ_cons, List.drop_zero, List.reverse_cons, List.reverse_nil, List.nil_append, List.cons_append, List.getD_cons_succ, List.getD_cons_zero, List.getD_nil, List.length_cons, List.length_nil, List.map_cons, List.map_nil, List.sum_cons, List.sum_nil, Nat.reduceAdd, Nat.reduceLeDiff, Value.category, Option.toList, true_or, or_true, z_ua, ↓reduceIte, Nat.reduceEqDiff, eq_self, not_true_eq_false, not_false_eq_true, false_implies, true_implies, Classical.not_not, Nat.le_refl, Nat.zero_le, q1, p1, p2, ha]
  try dsimp only
  refine ⟨fun h1 => ?_, fun h1 => ?_⟩
  · refine zW_ok hj B52_117 117 _ _ _ _ _ b52_117 ?_
    simp only [B52_117, zW, z_wp1, z_ld, z_f0, z_f1, z_f2, z_f3, List.getElem?_cons_zero, List.getElem?_cons_succ, true_and, and_true, Int32.reduceOfInt, z_i10, z_i01, Int32.reduceLT, Int32.reduceLE, Int32.reduceAdd, Int32.reduceSub, z_set, z_set2, z_kil, List.set_cons_zero, List.set_cons_succ, List.take_succ_cons, List.take_zero, List.drop_succ_cons, List.drop_zero, List.reverse_cons, List.reverse_nil, List.nil_append, List.cons_append, List.getD_cons_succ, List.getD_cons_zero, List.getD_nil, List.length_cons, List.length_nil, List.map_cons, List.map_nil, List.sum_cons, List.sum_nil, Nat.reduceAdd, Nat.reduceLeDiff, Value.category, Option.toList, true_or, or_true, z_ua, ↓reduceIte, Nat.reduceEqDiff, eq_self, not_true_eq_false, not_false_eq_true, false_implies, true_implies, Classical.not_not, Nat.le_refl, Nat.zero_le]
    try dsimp only
    exact fin 1 (z_b1 h1).symm
  · exact fin 0 (z_b0 (fun q => q h1)).symm
theorem c52_14 (hq : XQ K L G cd ca cb cc) {x : Int32} {r : List Int32} {ms a : Int32} (hs0 : x_S I cd cc (x :: r) ms) : z_Ctr l 2 52 [.ref cd, .int 14, .int a, .ref p] (n, K, L, I, J, G) 0 0 (x_Rk n K L I J G cd cc (x_not x :: r) ms) := by
  obtain ⟨q1, q2, q3, q4, q5, q6, q7, q8, q9, q10, e1, e2, e3, e4, e5, e6, e7, e8, e9, e10, e11, e12⟩ := id hq
  obtain ⟨p1, p2, p3, p4⟩ := x_S_pop e5 hs0
  refine z_ctr (by decide) (by decide +kernel) (Nat.le_of_ble_eq_true rfl) (by decide +kernel) (fun X hl hj hd hm hs hsc hQ => ?_)
  show zV X 0 [some (.ref cd), some (.int 14), some (.int a), some (.ref p), none, none] [] _ 0 0
  refine zW_ok hj B52_0 0 _ _ _ _ _ b52_0 ?_
  simp only [B52_0, zW, z_wp1, z_ld, z_f0, z_f1, z_f2, z_f3, List.getElem?_cons_zero, List.getElem?_cons_succ, z_tsw]
  refine ⟨fun q => absurd q (by decide), fun _ _ => ⟨124, rfl, ?_⟩⟩
  refine zW_ok hj B52_124 124 _ _ _ _ _ b52_124 ?_
  simp only [B52_124, zW, z_wp1, z_ld, z_f0, z_f1, z_f2, z_f3, List.getElem?_cons_zero, List.getElem?_cons_succ, true_and, and_true, Int32.reduceOfInt, z_i10, z_i01, Int32.reduceLT, Int32.reduceLE, Int32.reduceAdd, Int32.reduceSub, z_set, z_set2, z_kil, List.set_cons_zero, List.set_cons_succ, List.take_succ_cons, List.take_zero, List.drop_succ_cons, List.drop_zero, List.reverse_cons, List.reverse_nil, List.nil_append, List.cons_append, List.getD_cons_succ, List.getD_cons_zero, List.getD_nil, List.length_cons, List.length_nil, List.map_cons, List.map_nil, List.sum_cons, List.sum_nil, Nat.reduceAdd, Nat.reduceLeDiff, Value.category, Option.toList, true_or, or_true, z_ua, ↓reduceIte, Nat.reduceEqDiff, eq_self, not_true_eq_false, not_false_eq_true, false_implies, true_implies, Classical.not_not, Nat.le_refl, Nat.zero_le, q1]
  try dsimp only
  refine z_callD (c57 hq p3 p2) (by omega) (by omega) (by omega) (Nat.le_of_ble_eq_true rfl) ?_
  try simp only [zW, z_wp1, z_ld, z_f0, z_f1, z_f2, z_f3, List.getElem?_cons_zero, List.getElem?_cons_succ, true_and, and_true, Int32.reduceOfInt, z_i10, z_i01, Int32.reduceLT, Int32.reduceLE, Int32.reduceAdd, Int32.reduceSub, z_set, z_set2, z_kil, List.set_cons_zero, List.set_cons_succ, List.take_succ_cons, List.take_zero, List.drop_succ_cons, List.drop_zero, List.reverse_cons, List.reverse_nil, List.nil_append, List.cons_append, List.getD_cons_succ, List.getD_cons_zero, List.getD_nil, List.length_cons, List.length_nil, List.map_cons, List.map_nil, List.sum_cons, List.sum_nil, Nat.reduceAdd, Nat.reduceLeDiff, Value.category, Option.toList, true_or, or_true, z_ua, ↓reduceIte, Nat.reduceEqDiff, eq_self, not_true_eq_false, not_false_eq_true, false_implies, true_implies, Classical.not_not, Nat.le_refl, Nat.zero_le]
  try dsimp only
  refine z_callD (c55 (I cc r.length)) (by omega) (by omega) (by omega) (Nat.le_of_ble_eq_true rfl) ?_
  try simp only [zW, z_wp1, z_ld, z_f0, z_f1, z_f2, z_f3, List.getElem?_cons_zero, List.getElem?_cons_succ, true_and, and_true, Int32.reduceOfInt, z_i10, z_i01, Int32.reduceLT, Int32.reduceLE, Int32.reduceAdd, Int32.reduceSub, z_set, z_set2, z_kil, List.set_cons_zero, List.set_cons_succ, List.take_succ_cons, List.take_zero, List.drop_succ_cons, List.drop_zero, List.reverse_cons, List.reverse_nil, List.nil_append, List.cons_append, List.getD_cons_succ, List.getD_cons_zero, List.getD_nil, List.length_cons, List.length_nil, List.map_cons, List.map_nil, List.sum_cons, List.sum_nil, Nat.reduceAdd, Nat.reduceLeDiff, Value.category, Option.toList, true_or, or_true, z_ua, ↓reduceIte, Nat.reduceEqDiff, eq_self, not_true_eq_false, not_false_eq_true, false_implies, true_implies, Classical.not_not, Nat.le_refl, Nat.zero_le, q1]
  try dsimp only
  refine z_callD (c56 hq p4.2.1 p2 (x_not (I cc r.length))) (by omega) (by omega) (by omega) (Nat.le_of_ble_eq_true rfl) ?_
  try simp only [zW, z_wp1, z_ld, z_f0, z_f1, z_f2, z_f3, List.getElem?_cons_zero, List.getElem?_cons_succ, true_and, and_true, Int32.reduceOfInt, z_i10, z_i01, Int32.reduceLT, Int32.reduceLE, Int32.reduceAdd, Int32.reduceSub, z_set, z_set2, z_kil, List.set_cons_zero, List.set_cons_succ, List.take_succ_cons, List.take_zero, List.drop_succ_cons, List.drop_zero, List.reverse_cons, List.reverse_nil, List.nil_append, List.cons_append, List.getD_cons_succ, List.getD_cons_zero, List.getD_nil, List.length_cons, List.length_nil, List.map_cons, List.map_nil, List.sum_cons, List.sum_nil, Nat.reduceAdd, Nat.reduceLeDiff, Value.category, Option.toList, true_or, or_true, z_ua, ↓reduceIte, Nat.reduceEqDiff, eq_self, not_true_eq_false, not_false_eq_true, false_implies, true_implies, Classical.not_not, Nat.le_refl, Nat.zero_le]
  try dsimp only
  refine zW_ok hj B52_224 224 _ _ _ _ _ b52_224 ?_
  simp only [B52_224, zW, z_wp1, z_ld, z_f0, z_f1, z_f2, z_f3, List.getElem?_cons_zero, List.getElem?_cons_succ, true_and, and_true, Int32.reduceOfInt, z_i10, z_i01, Int32.reduceLT, Int32.reduceLE, Int32.reduceAdd, Int32.reduceSub, z_set, z_set2, z_kil, List.set_cons_zero, List.set_cons_succ, List.take_succ_cons, List.take_zero, List.drop_succ_cons, List.drop_zero, List.reverse_cons, List.reverse_nil, List.nil_append, List.cons_append, List.getD_cons_succ, List.getD_cons_zero, List.getD_nil, List.length_cons, List.length_nil, List.map_cons, List.map_nil, List.sum_cons, List.sum_nil, Nat.reduceAdd, Nat.reduceLeDiff, Value.category, Option.toList, true_or, or_true, z_ua, ↓reduceIte, Nat.reduceEqDiff, eq_self, not_true_eq_false, not_false_eq_true, false_implies, true_implies, Classical.not_not, Nat.le_refl, Nat.zero_le]
  try dsimp only
  exact hQ _ _ ⟨rfl, _, rfl, ((x_off.d _ _ (Or.inl rfl)).tr (x_off.c _ _ e5)).tr (x_off.d _ _ (Or.inl rfl)), by rw [p1]; exact x_S_push e5 p4 p2⟩
theorem c52_6 (hq : XQ K L G cd ca cb cc) {x : Int32} {r : List Int32} {ms a : Int32} (ha : ¬ a = 0) (hs0 : x_S I cd cc (x :: r) ms) : z_Ctr l 2 52 [.ref cd, .int 6, .int a, .ref p] (n, K, L, I, J, G) 0 0 (x_Rk n K L I J G cd cc (x / a :: r) ms) := by
  obtain ⟨q1, q2, q3, q4, q5, q6, q7, q8, q9, q10, e1, e2, e3, e4, e5, e6, e7, e8, e9, e10, e11, e12⟩ := id hq
  obtain ⟨p1, p2, p3, p4⟩ := x_S_pop e5 hs0
  refine z_ctr (by decide) (by decide +kernel) (Nat.le_of_ble_eq_true rfl) (by decide +kernel) (fun X hl hj hd hm hs hsc hQ => ?_)
  show zV X 0 [some (.ref cd), some (.int 6), some (.int a), some (.ref p), none, none] [] _ 0 0
  refine zW_ok hj B52_0 0 _ _ _ _ _ b52_0 ?_
  simp only [B52_0, zW, z_wp1, z_ld, z_f0, z_f1, z_f2, z_f3, List.getElem?_cons_zero, List.getElem?_cons_succ, z_tsw]
  refine ⟨fun q => absurd q (by decide), fun _ _ => ⟨138, rfl, ?_⟩⟩
  refine zW_ok hj B52_138 138 _ _ _ _ _ b52_138 ?_
  simp only [B52_138, zW, z_wp1, z_ld, z_f0, z_f1, z_f2, z_f3, List.getElem?_cons_zero, List.getElem?_cons_succ, true_and, and_true, Int32.reduceOfInt, z_i10, z_i01, Int32.reduceLT, Int32.reduceLE, Int32.reduceAdd, Int32.reduceSub, z_set, z_set2, z_kil, List.set_cons_zero, List.set_cons_succ, List.take_succ_cons, List.take_zero, List.drop_succ_cons, List.drop_zero, List.reverse_cons, List.reverse_nil, List.nil_append, List.cons_append, List.getD_cons_succ, List.getD_cons_zero, List.getD_nil, List.length_cons, List.length_nil, List.map_cons, List.map_nil, List.sum_cons, List.sum_nil, Nat.reduceAdd, Nat.reduceLeDiff, Value.category, Option.toList, true_or, or_true, z_ua, ↓reduceIte, Nat.reduceEqDiff, eq_self, not_true_eq_false, not_false_eq_true, false_implies, true_implies, Classical.not_not, Nat.le_refl, Nat.zero_le, q1, ha]
  try dsimp only
  refine zW_ok hj B52_147 147 _ _ _ _ _ b52_147 ?_
  simp only [B52_147, zW, z_wp1, z_ld, z_f0, z_f1, z_f2, z_f3, List.getElem?_cons_zero, List.getElem?_cons_succ, true_and, and_true, Int32.reduceOfInt, z_i10, z_i01, Int32.reduceLT, Int32.reduceLE, Int32.reduceAdd, Int32.reduceSub, z_set, z_set2, z_kil, List.set_cons_zero, List.set_cons_succ, List.take_succ_cons, List.take_zero, List.drop_succ_cons, List.drop_zero, List.reverse_cons, List.reverse_nil, List.nil_append, List.cons_append, List.getD_cons_succ, List.getD_cons_zero, List.getD_nil, List.length_cons, List.length_nil, List.map_cons, List.map_nil, List.sum_cons, List.sum_nil, Nat.reduceAdd, Nat.reduceLeDiff, Value.category, Option.toList, true_or, or_true, z_ua, ↓reduceIte, Nat.reduceEqDiff, eq_self, not_true_eq_false, not_false_eq_true, false_implies, true_implies, Classical.not_not, Nat.le_refl, Nat.zero_le, q1]
  try dsimp only
  refine z_callD (c57 hq p3 p2) (by omega) (by omega) (by omega) (Nat.le_of_ble_eq_true rfl) ?_
  try simp only [zW, z_wp1, z_ld, z_f0, z_f1, z_f2, z_f3, List.getElem?_cons_zero, List.getElem?_cons_succ, true_and, and_true, Int32.reduceOfInt, z_i10, z_i01, Int32.reduceLT, Int32.reduceLE, Int32.reduceAdd, Int32.reduceSub, z_set, z_set2, z_kil, List.set_cons_zero, List.set_cons_succ, List.take_succ_cons, List.take_zero, List.drop_succ_cons, List.drop_zero, List.reverse_cons, List.reverse_nil, List.nil_append, List.cons_append, List.getD_cons_succ, List.getD_cons_zero, List.getD_nil, List.length_cons, List.length_nil, List.map_cons, List.map_nil, List.sum_cons, List.sum_nil, Nat.reduceAdd, Nat.reduceLeDiff, Value.category, Option.toList, true_or, or_true, z_ua, ↓reduceIte, Nat.reduceEqDiff, eq_self, not_true_eq_false, not_false_eq_true, false_implies, true_implies, Classical.not_not, Nat.le_refl, Nat.zero_le, ha]
  try dsimp only
  refine zW_ok hj B52_153 153 _ _ _ _ _ b52_153 ?_
  simp only [B52_153, zW, z_wp1, z_ld, z_f0, z_f1, z_f2, z_f3, List.getElem?_cons_zero, List.getElem?_cons_succ, true_and, and_true, Int32.reduceOfInt, z_i10, z_i01, Int32.reduceLT, Int32.reduceLE, Int32.reduceAdd, Int32.reduceSub, z_set, z_set2, z_kil, List.set_cons_zero, List.set_cons_succ, List.take_succ_cons, List.take_zero, List.drop_succ_cons, List.drop_zero, List.reverse_cons, List.reverse_nil, List.nil_append, List.cons_append, List.getD_cons_succ, List.getD_cons_zero, List.getD_nil, List.length_cons, List.length_nil, List.map_cons, List.map_nil, List.sum_cons, List.sum_nil, Nat.reduceAdd, Nat.reduceLeDiff, Value.category, Option.toList, true_or, or_true, z_ua, ↓reduceIte, Nat.reduceEqDiff, eq_self, not_true_eq_false, not_false_eq_true, false_implies, true_implies, Classical.not_not, Nat.le_refl, Nat.zero_le, q1]
  try dsimp only
  refine z_callD (c56 hq p4.2.1 p2 (I cc r.length / a)) (by omega) (by omega) (by omega) (Nat.le_of_ble_eq_true rfl) ?_
  try simp only [zW, z_wp1, z_ld, z_f0, z_f1, z_f2, z_f3, List.getElem?_cons_zero, List.getElem?_cons_succ, true_and, and_true, Int32.reduceOfInt, z_i10, z_i01, Int32.reduceLT, Int32.reduceLE, Int32.reduceAdd, Int32.reduceSub, z_set, z_set2, z_kil, List.set_cons_zero, List.set_cons_succ, List.take_succ_cons, List.take_zero, List.drop_succ_cons, List.drop_zero, List.reverse_cons, List.reverse_nil, List.nil_append, List.cons_append, List.getD_cons_succ, List.getD_cons_zero, List.getD_nil, List.length_cons, List.length_nil, List.map_cons, List.map_nil, List.sum_cons, List.sum_nil, Nat.reduceAdd, Nat.reduceLeDiff, Value.category, Option.toList, true_or, or_true, z_ua, ↓reduceIte, Nat.reduceEqDiff, eq_self, not_true_eq_false, not_false_eq_true, false_implies, true_implies, Classical.not_not, Nat.le_refl, Nat.zero_le]
  try dsimp only
  refine zW_ok hj B52_224 224 _ _ _ _ _ b52_224 ?_
  simp only [B52_224, zW, z_wp1, z_ld, z_f0, z_f1, z_f2, z_f3, List.getElem?_cons_zero, List.getElem?_cons_succ, true_and, and_true, Int32.reduceOfInt, z_i10, z_i01, Int32.reduceLT, Int32.reduceLE, Int32.reduceAdd, Int32.reduceSub, z_set, z_set2, z_kil, List.set_cons_zero, List.set_cons_succ, List.take_succ_cons, List.take_zero, List.drop_succ_cons, List.drop_zero, List.reverse_cons, List.reverse_nil, List.nil_append, List.cons_append, List.getD_cons_succ, List.getD_cons_zero, List.getD_nil, List.length_cons, List.length_nil, List.map_cons, List.map_nil, List.sum_cons, List.sum_nil, Nat.reduceAdd, Nat.reduceLeDiff, Value.category, Option.toList, true_or, or_true, z_ua, ↓reduceIte, Nat.reduceEqDiff, eq_self, not_true_eq_false, not_false_eq_true, false_implies, true_implies, Classical.not_not, Nat.le_refl, Nat.zero_le]
  try dsimp only
  exact hQ _ _ ⟨rfl, _, rfl, ((x_off.d _ _ (Or.inl rfl)).tr (x_off.c _ _ e5)).tr (x_off.d _ _ (Or.inl rfl)), by rw [p1]; exact x_S_push e5 p4 p2⟩
theorem c53y {h : zH} {k : Int32} (hk : x_cmp k) : z_D l 0 53 [.int k] h (some (.int 1)) h := by
  have d : Decidable (x_cmp k) := Classical.propDecidable _
  have q := c53 (l := l) (h := h) k
  rw [z_b1 hk] at q
  exact q
theorem c53n {h : zH} {k : Int32} (hk : ¬ x_cmp k) : z_D l 0 53 [.int k] h (some (.int 0)) h := by
  have d : Decidable (x_cmp k) := Classical.propDecidable _
  have q := c53 (l := l) (h := h) k
  rw [z_b0 hk] at q
  exact q
theorem c52_d (hq : XQ K L G cd ca cb cc) {k x y : Int32} {r : List Int32} {ms a : Int32} (hk : x_op k) (hs0 : x_S I cd cc (y :: x :: r) ms) : z_Ctr l 2 52 [.ref cd, .int k, .int a, .ref p] (n, K, L, I, J, G) 0 0 (x_Rk n K L I J G cd cc ((@ite _ (¬ ms = 0 ∧ x_cmp k) (Classical.propDecidable _) 2 (x_join k x y)) :: r) (@ite _ (¬ ms = 0 ∧ ¬ x_cmp k) (Classical.propDecidable _) 1 0)) := by
  obtain ⟨q1, q2, q3, q4, q5, q6, q7, q8, q9, q10, e1, e2, e3, e4, e5, e6, e7, e8, e9, e10, e11, e12⟩ := id hq
  obtain ⟨p1, p2, p3, p4⟩ := x_S_pop e5 hs0
  obtain ⟨r1, r2, r3, r4⟩ := x_S_pop e5 p4
  have h6 := r4.2.2.1
  have r1' : I cc r.length = x := by rw [z_u_ne e6] at r1; exact r1
  have h60 : I cd 6 = ms := hs0.2.2.1
  have p1' : I cc (r.length + 1) = y := by simpa using p1
  refine z_ctr (by decide) (by decide +kernel) (Nat.le_of_ble_eq_true rfl) (by decide +kernel) (fun X hl hj hd hm hs hsc hQ => ?_)
  show zV X 0 [some (.ref cd), some (.int k), some (.int a), some (.ref p), none, none] [] _ 0 0
  -- behind the join
  have fin : ∀ z : Int32, z = (@ite _ (¬ ms = 0 ∧ x_cmp k) (Classical.propDecidable _) 2 (x_join k x y)) → zV X 198 [some (.ref cd), some (.int k), some (.int a), some (.ref p), some (.int y), some (.int x)] [.int z, .ref cd] (n, K, L, z_u (z_u I cd 5 (nI (x :: r).length)) cd 5 (nI r.length), J, G) 0 0 := by
    intro z hz
    have hs2 := x_S_push (v := z) e5 r4 r2
    have h62 := hs2.2.2.1
    have end1 : ∀ m : Int32, (m = 0 ∨ m = 1) → m = (@ite _ (¬ ms = 0 ∧ ¬ x_cmp k) (Classical.propDecidable _) 1 0) → zV X 221 [some (.ref cd), some (.int k), some (.int a), some (.ref p), some (.int y), some (.int x)] [.int m, .ref cd] (n, K, L, z_u (z_u (z_u (z_u I cd 5 (nI (x :: r).length)) cd 5 (nI r.length)) cc r.length z) cd 5 (nI (r.length + 1)), J, G) 0 0 := by
      intro m h01 hm
      refine zW_ok hj B52_221 221 _ _ _ _ _ b52_221 ?_
      simp only [B52_221, zW, z_wp1, z_ld, z_f0, z_f1, z_f2, z_f3, List.getElem?_cons_zero, List.getElem?_cons_succ, true_and, and_true, Int32.reduceOfInt, z_i10, z_i01, Int32.reduceLT, Int32.reduceLE, Int32.reduceAdd, Int32.reduceSub, z_set, z_set2, z_kil, List.set_cons_zero, List.set_cons_succ, List.take_succ_cons, List.take_zero, List.drop_succ_cons, List.drop_zero, List.reverse_cons, List.reverse_nil, List.nil_append, List.cons_append, List.getD_cons_succ, List.getD_cons_zero, List.getD_nil, List.length_cons, List.length_nil, List.map_cons, List.map_nil, List.sum_cons, List.sum_nil, Nat.reduceAdd, Nat.reduceLeDiff, Value.category, Option.toList, true_or, or_true, z_ua, ↓reduceIte, Nat.reduceEqDiff, eq_self, not_true_eq_false, not_false_eq_true, false_implies, true_implies, Classical.not_not, Nat.le_refl, Nat.zero_le, q1, h01]
      try dsimp only
      refine zW_ok hj B52_224 224 _ _ _ _ _ b52_224 ?_
      simp only [B52_224, zW, z_wp1, z_ld, z_f0, z_f1, z_f2, z_f3, List.getElem?_cons_zero, List.getElem?_cons_succ, true_and, and_true, Int32.reduceOfInt, z_i10, z_i01, Int32.reduceLT, Int32.reduceLE, Int32.reduceAdd, Int32.reduceSub, z_set, z_set2, z_kil, List.set_cons_zero, List.set_cons_succ, List.take_succ_cons, List.take_zero, List.drop_succ_cons, List.drop_zero, List.reverse_cons, List.reverse_nil, List.nil_append, List.cons_append, List.getD_cons_succ, List.getD_cons_zero, List.getD_nil, List.length_cons, List.length_nil, List.map_cons, List.map_nil, List.sum_cons, List.sum_nil, Nat.reduceAdd, Nat.reduceLeDiff, Value.category, Option.toList, true_or, or_true, z_ua, ↓reduceIte, Nat.reduceEqDiff, eq_self, not_true_eq_false, not_false_eq_true, false_implies, true_implies, Classical.not_not, Nat.le_refl, Nat.zero_le]
      try dsimp only
      refine hQ _ _ ⟨rfl, _, rfl, ((((x_off.d _ _ (Or.inl rfl)).tr (x_off.d _ _ (Or.inl rfl))).tr (x_off.c _ _ e5)).tr (x_off.d _ _ (Or.inl rfl))).tr (x_off.d _ _ (Or.inr rfl)), ?_⟩
      rw [← hz, ← hm]
      exact x_S_ms e5 hs2
    refine zW_ok hj B52_198 198 _ _ _ _ _ b52_198 ?_
    simp only [B52_198, zW, z_wp1, z_ld, z_f0, z_f1, z_f2, z_f3, List.getElem?_cons_zero, List.getElem?_cons_succ, true_and, and_true, Int32.reduceOfInt, z_i10, z_i01, Int32.reduceLT, Int32.reduceLE, Int32.reduceAdd, Int32.reduceSub, z_set, z_set2, z_kil, List.set_cons_zero, List.set_cons_succ, List.take_succ_cons, List.take_zero, List.drop_succ_cons, List.drop_zero, List.reverse_cons, List.reverse_nil, List.nil_append, List.cons_append, List.getD_cons_succ, List.getD_cons_zero, List.getD_nil, List.length_cons, List.length_nil, List.map_cons, List.map_nil, List.sum_cons, List.sum_nil, Nat.reduceAdd, Nat.reduceLeDiff, Value.category, Option.toList, true_or, or_true, z_ua, ↓reduceIte, Nat.reduceEqDiff, eq_self, not_true_eq_false, not_false_eq_true, false_implies, true_implies, Classical.not_not, Nat.le_refl, Nat.zero_le, q1]
    try dsimp only
    refine z_callD (c56 hq r4.2.1 r2 z) (by omega) (by omega) (by omega) (Nat.le_of_ble_eq_true rfl) ?_
    try simp only [zW, z_wp1, z_ld, z_f0, z_f1, z_f2, z_f3, List.getElem?_cons_zero, List.getElem?_cons_succ, true_and, and_true, Int32.reduceOfInt, z_i10, z_i01, Int32.reduceLT, Int32.reduceLE, Int32.reduceAdd, Int32.reduceSub, z_set, z_set2, z_kil, List.set_cons_zero, List.set_cons_succ, List.take_succ_cons, List.take_zero, List.drop_succ_cons, List.drop_zero, List.reverse_cons, List.reverse_nil, List.nil_append, List.cons_append, List.getD_cons_succ, List.getD_cons_zero, List.getD_nil, List.length_cons, List.length_nil, List.map_cons, List.map_nil, List.sum_cons, List.sum_nil, Nat.reduceAdd, Nat.reduceLeDiff, Value.category, Option.toList, true_or, or_true, z_ua, ↓reduceIte, Nat.reduceEqDiff, eq_self, not_true_eq_false, not_false_eq_true, false_implies, true_implies, Classical.not_not, Nat.le_refl, Nat.zero_le, q1, e5, e6, h60]
    try dsimp only
    refine ⟨fun h1 => ?_, fun h1 => ?_⟩
    · refine zW_ok hj B52_220 220 _ _ _ _ _ b52_220 ?_
      simp only [B52_220, zW, z_wp1, z_ld, z_f0, z_f1, z_f2, z_f3, List.getElem?_cons_zero, List.getElem?_cons_succ, true_and, and_true, Int32.reduceOfInt, z_i10, z_i01, Int32.reduceLT, Int32.reduceLE, Int32.reduceAdd, Int32.reduceSub, z_set, z_set2, z_kil, List.set_cons_zero, List.set_cons_succ, List.take_succ_cons, List.take_zero, List.drop_succ_cons, List.drop_zero, List.reverse_cons, List.reverse_nil, List.nil_append, List.cons_append, List.getD_cons_succ, List.getD_cons_zero, List.getD_nil, List.length_cons, List.length_nil, List.map_cons, List.map_nil, List.sum_cons, List.sum_nil, Nat.reduceAdd, Nat.reduceLeDiff, Value.category, Option.toList, true_or, or_true, z_ua, ↓reduceIte, Nat.reduceEqDiff, eq_self, not_true_eq_false, not_false_eq_true, false_implies, true_implies, Classical.not_not, Nat.le_refl, Nat.zero_le]
      try dsimp only
      exact end1 0 (Or.inl rfl) (if_neg (fun q => q.1 h1)).symm
    · by_cases hc : x_cmp k
      · refine z_callD (c53y hc) (by omega) (by omega) (by omega) (Nat.le_of_ble_eq_true rfl) ?_
        try simp only [zW, z_wp1, z_ld, z_f0, z_f1, z_f2, z_f3, List.getElem?_cons_zero, List.getElem?_cons_succ, true_and, and_true, Int32.reduceOfInt, z_i10, z_i01, Int32.reduceLT, Int32.reduceLE, Int32.reduceAdd, Int32.reduceSub, z_set, z_set2, z_kil, List.set_cons_zero, List.set_cons_succ, List.take_succ_cons, List.take_zero, List.drop_succ_cons, List.drop_zero, List.reverse_cons, List.reverse_nil, List.nil_append, List.cons_append, List.getD_cons_succ, List.getD_cons_zero, List.getD_nil, List.length_cons, List.length_nil, List.map_cons, List.map_nil, List.sum_cons, List.sum_nil, Nat.reduceAdd, Nat.reduceLeDiff, Value.category, Option.toList, true_or, or_true, z_ua, ↓reduceIte, Nat.reduceEqDiff, eq_self, not_true_eq_false, not_false_eq_true, false_implies, true_implies, Classical.not_not, Nat.le_refl, Nat.zero_le]
        try dsimp only
        refine zW_ok hj B52_220 220 _ _ _ _ _ b52_220 ?_
        simp only [B52_220, zW, z_wp1, z_ld, z_f0, z_f1, z_f2, z_f3, List.getElem?_cons_zero, List.getElem?_cons_succ, true_and, and_true, Int32.reduceOfInt, z_i10, z_i01, Int32.reduceLT, Int32.reduceLE, Int32.reduceAdd, Int32.reduceSub, z_set, z_set2, z_kil, List.set_cons_zero, List.set_cons_succ, List.take_succ_cons, List.take_zero, List.drop_succ_cons, List.drop_zero, List.reverse_cons, List.reverse_nil, List.nil_append, List.cons_append, List.getD_cons_succ, List.getD_cons_zero, List.getD_nil, List.length_cons, List.length_nil, List.map_cons, List.map_nil, List.sum_cons, List.sum_nil, Nat.reduceAdd, Nat.reduceLeDiff, Value.category, Option.toList, true_or, or_true, z_ua, ↓reduceIte, Nat.reduceEqDiff, eq_self, not_true_eq_false, not_false_eq_true, false_implies, true_implies, Classical.not_not, Nat.le_refl, Nat.zero_le]
        try dsimp only
        exact end1 0 (Or.inl rfl) (if_neg (fun q => q.2 hc)).symm
      · refine z_callD (c53n hc) (by omega) (by omega) (by omega) (Nat.le_of_ble_eq_true rfl) ?_
        try simp only [zW, z_wp1, z_ld, z_f0, z_f1, z_f2, z_f3, List.getElem?_cons_zero, List.getElem?_cons_succ, true_and, and_true, Int32.reduceOfInt, z_i10, z_i01, Int32.reduceLT, Int32.reduceLE, Int32.reduceAdd, Int32.reduceSub, z_set, z_set2, z_kil, List.set_cons_zero, List.set_cons_succ, List.take_succ_cons, List.take_zero, List.drop_succ_cons, List.drop_zero, List.reverse_cons, List.reverse_nil, List.nil_append, List.cons_append, List.getD_cons_succ, List.getD_cons_zero, List.getD_nil, List.length_cons, List.length_nil, List.map_cons, List.map_nil, List.sum_cons, List.sum_nil, Nat.reduceAdd, Nat.reduceLeDiff, Value.category, Option.toList, true_or, or_true, z_ua, ↓reduceIte, Nat.reduceEqDiff, eq_self, not_true_eq_false, not_false_eq_true, false_implies, true_implies, Classical.not_not, Nat.le_refl, Nat.zero_le]
        try dsimp only
        exact end1 1 (Or.inr rfl) (if_pos ⟨h1, hc⟩).symm
  have body : zV X 159 [some (.ref cd), some (.int k), some (.int a), some (.ref p), none, none] [] (n, K, L, I, J, G) 0 0 := by
    refine zW_ok hj B52_159 159 _ _ _ _ _ b52_159 ?_
    simp only [B52_159, zW, z_wp1, z_ld, z_f0, z_f1, z_f2, z_f3, List.getElem?_cons_zero, List.getElem?_cons_succ, true_and, and_true, Int32.reduceOfInt, z_i10, z_i01, Int32.reduceLT, Int32.reduceLE, Int32.reduceAdd, Int32.reduceSub, z_set, z_set2, z_kil, List.set_cons_zero, List.set_cons_succ, List.take_succ_cons, List.take_zero, List.drop_succ_cons, List.drop_zero, List.reverse_cons, List.reverse_nil, List.nil_append, List.cons_append, List.getD_cons_succ, List.getD_cons_zero, List.getD_nil, List.length_cons, List.length_nil, List.map_cons, List.map_nil, List.sum_cons, List.sum_nil, Nat.reduceAdd, Nat.reduceLeDiff, Value.category, Option.toList, true_or, or_true, z_ua, ↓reduceIte, Nat.reduceEqDiff, eq_self, not_true_eq_false, not_false_eq_true, false_implies, true_implies, Classical.not_not, Nat.le_refl, Nat.zero_le, q1]
    try dsimp only
    refine z_callD (c57 hq p3 p2) (by omega) (by omega) (by omega) (Nat.le_of_ble_eq_true rfl) ?_
    try simp only [zW, z_wp1, z_ld, z_f0, z_f1, z_f2, z_f3, List.getElem?_cons_zero, List.getElem?_cons_succ, true_and, and_true, Int32.reduceOfInt, z_i10, z_i01, Int32.reduceLT, Int32.reduceLE, Int32.reduceAdd, Int32.reduceSub, z_set, z_set2, z_kil, List.set_cons_zero, List.set_cons_succ, List.take_succ_cons, List.take_zero, List.drop_succ_cons, List.drop_zero, List.reverse_cons, List.reverse_nil, List.nil_append, List.cons_append, List.getD_cons_succ, List.getD_cons_zero, List.getD_nil, List.length_cons, List.length_nil, List.map_cons, List.map_nil, List.sum_cons, List.sum_nil, Nat.reduceAdd, Nat.reduceLeDiff, Value.category, Option.toList, true_or, or_true, z_ua, ↓reduceIte, Nat.reduceEqDiff, eq_self, not_true_eq_false, not_false_eq_true, false_implies, true_implies, Classical.not_not, Nat.le_refl, Nat.zero_le, q1]
    try dsimp only
    refine z_callD (c57 hq r3 r2) (by omega) (by omega) (by omega) (Nat.le_of_ble_eq_true rfl) ?_
    try simp only [zW, z_wp1, z_ld, z_f0, z_f1, z_f2, z_f3, List.getElem?_cons_zero, List.getElem?_cons_succ, true_and, and_true, Int32.reduceOfInt, z_i10, z_i01, Int32.reduceLT, Int32.reduceLE, Int32.reduceAdd, Int32.reduceSub, z_set, z_set2, z_kil, List.set_cons_zero, List.set_cons_succ, List.take_succ_cons, List.take_zero, List.drop_succ_cons, List.drop_zero, List.reverse_cons, List.reverse_nil, List.nil_append, List.cons_append, List.getD_cons_succ, List.getD_cons_zero, List.getD_nil, List.length_cons, List.length_nil, List.map_cons, List.map_nil, List.sum_cons, List.sum_nil, Nat.reduceAdd, Nat.reduceLeDiff, Value.category, Option.toList, true_or, or_true, z_ua, ↓reduceIte, Nat.reduceEqDiff, eq_self, not_true_eq_false, not_false_eq_true, false_implies, true_implies, Classical.not_not, Nat.le_refl, Nat.zero_le, q1, e5, e6]
    try dsimp only
    rw [p1', r1', h60]
    have j190 : ¬ (¬ ms = 0 ∧ x_cmp k) → zV X 190 [some (.ref cd), some (.int k), some (.int a), some (.ref p), some (.int y), some (.int x)] [.ref cd] (n, K, L, z_u (z_u I cd 5 (nI (x :: r).length)) cd 5 (nI r.length), J, G) 0 0 := by
      intro hn
      refine zW_ok hj B52_190 190 _ _ _ _ _ b52_190 ?_
      simp only [B52_190, zW, z_wp1, z_ld, z_f0, z_f1, z_f2, z_f3, List.getElem?_cons_zero, List.getElem?_cons_succ, true_and, and_true, Int32.reduceOfInt, z_i10, z_i01, Int32.reduceLT, Int32.reduceLE, Int32.reduceAdd, Int32.reduceSub, z_set, z_set2, z_kil, List.set_cons_zero, List.set_cons_succ, List.take_succ_cons, List.take_zero, List.drop_succ_cons, List.drop_zero, List.reverse_cons, List.reverse_nil, List.nil_append, List.cons_append, List.getD_cons_succ, List.getD_cons_zero, List.getD_nil, List.length_cons, List.length_nil, List.map_cons, List.map_nil, List.sum_cons, List.sum_nil, Nat.reduceAdd, Nat.reduceLeDiff, Value.category, Option.toList, true_or, or_true, z_ua, ↓reduceIte, Nat.reduceEqDiff, eq_self, not_true_eq_false, not_false_eq_true, false_implies, true_implies, Classical.not_not, Nat.le_refl, Nat.zero_le]
      try dsimp only
      refine z_callD (c54 hk x y) (by omega) (by omega) (by omega) (Nat.le_of_ble_eq_true rfl) ?_
      try simp only [zW, z_wp1, z_ld, z_f0, z_f1, z_f2, z_f3, List.getElem?_cons_zero, List.getElem?_cons_succ, true_and, and_true, Int32.reduceOfInt, z_i10, z_i01, Int32.reduceLT, Int32.reduceLE, Int32.reduceAdd, Int32.reduceSub, z_set, z_set2, z_kil, List.set_cons_zero, List.set_cons_succ, List.take_succ_cons, List.take_zero, List.drop_succ_cons, List.drop_zero, List.reverse_cons, List.reverse_nil, List.nil_append, List.cons_append, List.getD_cons_succ, List.getD_cons_zero, List.getD_nil, List.length_cons, List.length_nil, List.map_cons, List.map_nil, List.sum_cons, List.sum_nil, Nat.reduceAdd, Nat.reduceLeDiff, Value.category, Option.toList, true_or, or_true, z_ua, ↓reduceIte, Nat.reduceEqDiff, eq_self, not_true_eq_false, not_false_eq_true, false_implies, true_implies, Classical.not_not, Nat.le_refl, Nat.zero_le]
      try dsimp only
      exact fin _ (if_neg hn).symm
    refine ⟨fun h1 => j190 (fun q => q.1 h1), fun h1 => ?_⟩
    by_cases hc : x_cmp k
    · refine z_callD (c53y hc) (by omega) (by omega) (by omega) (Nat.le_of_ble_eq_true rfl) ?_
      try simp only [zW, z_wp1, z_ld, z_f0, z_f1, z_f2, z_f3, List.getElem?_cons_zero, List.getElem?_cons_succ, true_and, and_true, Int32.reduceOfInt, z_i10, z_i01, Int32.reduceLT, Int32.reduceLE, Int32.reduceAdd, Int32.reduceSub, z_set, z_set2, z_kil, List.set_cons_zero, List.set_cons_succ, List.take_succ_cons, List.take_zero, List.drop_succ_cons, List.drop_zero, List.reverse_cons, List.reverse_nil, List.nil_append, List.cons_append, List.getD_cons_succ, List.getD_cons_zero, List.getD_nil, List.length_cons, List.length_nil, List.map_cons, List.map_nil, List.sum_cons, List.sum_nil, Nat.reduceAdd, Nat.reduceLeDiff, Value.category, Option.toList, true_or, or_true, z_ua, ↓reduceIte, Nat.reduceEqDiff, eq_self, not_true_eq_false, not_false_eq_true, false_implies, true_implies, Classical.not_not, Nat.le_refl, Nat.zero_le]
      try dsimp only
      exact fin 2 (if_pos ⟨h1, hc⟩).symm
    · refine z_callD (c53n hc) (by omega) (by omega) (by omega) (Nat.le_of_ble_eq_true rfl) ?_
      try simp only [zW, z_wp1, z_ld, z_f0, z_f1, z_f2, z_f3, List.getElem?_cons_zero, List.getElem?_cons_succ, true_and, and_true, Int32.reduceOfInt, z_i10, z_i01, Int32.reduceLT, Int32.reduceLE, Int32.reduceAdd, Int32.reduceSub, z_set, z_set2, z_kil, List.set_cons_zero, List.set_cons_succ, List.take_succ_cons, List.take_zero, List.drop_succ_cons, List.drop_zero, List.reverse_cons, List.reverse_nil, List.nil_append, List.cons_append, List.getD_cons_succ, List.getD_cons_zero, List.getD_nil, List.length_cons, List.length_nil, List.map_cons, List.map_nil, List.sum_cons, List.sum_nil, Nat.reduceAdd, Nat.reduceLeDiff, Value.category, Option.toList, true_or, or_true, z_ua, ↓reduceIte, Nat.reduceEqDiff, eq_self, not_true_eq_false, not_false_eq_true, false_implies, true_implies, Classical.not_not, Nat.le_refl, Nat.zero_le]
      try dsimp only
      exact j190 (fun q => hc q.2)
  refine zW_ok hj B52_0 0 _ _ _ _ _ b52_0 ?_
  simp only [B52_0, zW, z_wp1, z_ld, z_f0, z_f1, z_f2, z_f3, List.getElem?_cons_zero, List.getElem?_cons_succ, z_tsw]
  rcases hk with rfl | rfl | rfl | rfl | rfl | rfl | rfl | rfl
  all_goals first
    | exact ⟨fun _ => body, fun h1 _ => absurd (by decide) h1⟩
    | exact ⟨fun q => absurd q (by decide), fun _ _ => ⟨159, rfl, body⟩⟩
end X4
