/-! The model: changed, holders, splits -/
def m_hold (row : Nat → Int32) (set : Int32) (i : Nat) : Nat → Int32
  | 0 => 0
  | f + 1 => if set >>> (nI f &&& 31) &&& 1 = 1 ∧ row f >>> (nI i &&& 31) &&& 1 = 1 then m_hold row set i f ||| 1 <<< (nI f &&& 31) else m_hold row set i f
/-- the finds of a set that have the mark i, if it is asked for -/
def m_ho (row : Nat → Int32) (set asked : Int32) (F i : Nat) : Int32 := if asked >>> (nI i &&& 31) &&& 1 = 0 then 0 else m_hold row set i F
theorem m_hold_congr {r r' : Nat → Int32} {set : Int32} {i : Nat} : ∀ {F : Nat}, (∀ g, g < F → r g = r' g) → m_hold r set i F = m_hold r' set i F
  | 0, _ => rfl
  | f + 1, h => by rw [m_hold, m_hold, h f (by omega), m_hold_congr (fun g hg => h g (by omega))]
/-- the finds for which a mark says v -/
def m_spl (T : Int32 → Int32) (v : Int32) : Nat → Int32
  | 0 => 0
  | f + 1 => if T (nI f) = v then m_spl T v f ||| 1 <<< (nI f &&& 31) else m_spl T v f
section M15
variable {l : Launch} {n : Nat} {K L : Nat → Nat} {I : Nat → Nat → Int32} {J : Nat → Nat → Int64} {G : Nat → Nat → Value} {c F N EN E A : Nat} {tr : Nat → (Int32 → Int32) → Int32}
def m_chg (I : Nat → Nat → Int32) (c : Nat) (tr : Nat → (Int32 → Int32) → Int32) (k d1 d2 : Int32) (f i : Nat) : Prop := ¬ mT I c tr k d1 i (nI f) = mT I c tr k d2 i (nI f)
theorem c242_in {X : zX} (hS : SS K L G) (hj : X.2.1 = 242) (hd : X.2.2.1 = 3) (hm : X.2.2.2.1 = 0) (hs : X.2.2.2.2.1 = 0) (hst : m_st I c F N tr) {k0 d1 d2 w : Int32} {f : Nat} (hf : f < 16) {o : Int32 ⊕ Nat} (ky : ∀ v, o = .inl v → ∀ I', m_off I I' → X.2.2.2.2.2.2 (some (.int v)) (n, K, L, I', J, G))
    (kn : ∀ s, o = .inr s → ∀ I', m_off I I' → zV X 117 [some (.ref 71), some (.int k0), some (.int d1), some (.int d2), some (.int w), some (.int (nI s)), some (.int (nI f)), none] [] (n, K, L, I', J, G) 0 0) : ∀ (k i seen : Nat) (I' : Nat → Nat → Int32), i + k = N → m_off I I' → m_sc1 (m_chg I c tr k0 d1 d2 f) (fun i => 12 * nI f + nI i) w k i seen = o →
      zV X 51 [some (.ref 71), some (.int k0), some (.int d1), some (.int d2), some (.int w), some (.int (nI seen)), some (.int (nI f)), some (.int (nI i))] [] (n, K, L, I', J, G) 0 0
  | 0, i, seen, I', hi, hoff, ho => by
    have e : i = N := by omega
    subst e
    obtain ⟨s1, s2, s3, s4, s5, s6, s7⟩ := hoff.sm.st hst
    have := kn seen (by rw [← ho, m_sc1]) I' hoff
    refine zW_ok hj B242_51 51 _ _ _ _ _ b242_51 ?_
    simp only [B242_51, zW, z_wp1, z_ld, z_f0, z_f1, z_f2, z_f3, List.getElem?_cons_zero, List.getElem?_cons_succ, true_and, and_true, Int32.reduceOfInt, z_i10, z_i01, Int32.reduceLT, Int32.reduceLE, Int32.reduceAdd, Int32.reduceSub, z_set, z_set2, z_kil, List.set_cons_zero, List.set_cons_succ, List.take_succ_cons, List.take_zero, List.drop_succ_cons, List.drop_zero, List.reverse_cons, List.reverse_nil, List.nil_append, List.cons_append, List.getD_cons_succ, List.getD_cons_zero, List.getD_nil, List.length_cons, List.length_nil, List.map_cons, List.map_nil, List.sum_cons, List.sum_nil, Nat.reduceAdd, Nat.reduceLeDiff, Value.category, Option.toList, true_or, or_true, z_ua, ↓reduceIte, Nat.reduceEqDiff, eq_self, not_true_eq_false, not_false_eq_true, false_implies, true_implies, Classical.not_not, Nat.le_refl, Nat.zero_le, sK71 hS, s5]
    try dsimp only
    refine ⟨fun _ => this.weak (by simp only [z_le]; simp), fun q => absurd (nI_le (Nat.le_refl _) (by omega)) q⟩
  | k + 1, i, seen, I', hi, hoff, ho => by
    have hst1 := hoff.sm.st hst
    obtain ⟨s1, s2, s3, s4, s5, s6, s7⟩ := id hst1
    have eT : ∀ (J' : Nat → Nat → Int32), m_off I J' → ∀ d, mT J' c tr k0 d i (nI f) = mT I c tr k0 d i (nI f) := fun J' hJ d => by simp only [mT, hJ.sm.kn]
    have go : ∀ (seen' : Nat) (I2 : Nat → Nat → Int32), m_off I I2 → m_sc1 (m_chg I c tr k0 d1 d2 f) (fun i => 12 * nI f + nI i) w k (i + 1) seen' = o → zV X 111 [some (.ref 71), some (.int k0), some (.int d1), some (.int d2), some (.int w), some (.int (nI seen')), some (.int (nI f)), some (.int (nI i))] [] (n, K, L, I2, J, G) 0 0 := by
      intro seen' I2 h2 h'
      refine zW_ok hj B242_111 111 _ _ _ _ _ b242_111 ?_
      simp only [B242_111, zW, z_wp1, z_ld, z_f0, z_f1, z_f2, z_f3, List.getElem?_cons_zero, List.getElem?_cons_succ, true_and, and_true, Int32.reduceOfInt, z_i10, z_i01, Int32.reduceLT, Int32.reduceLE, Int32.reduceAdd, Int32.reduceSub, z_set, z_set2, z_kil, List.set_cons_zero, List.set_cons_succ, List.take_succ_cons, List.take_zero, List.drop_succ_cons, List.drop_zero, List.reverse_cons, List.reverse_nil, List.nil_append, List.cons_append, List.getD_cons_succ, List.getD_cons_zero, List.getD_nil, List.length_cons, List.length_nil, List.map_cons, List.map_nil, List.sum_cons, List.sum_nil, Nat.reduceAdd, Nat.reduceLeDiff, Value.category, Option.toList, true_or, or_true, z_ua, ↓reduceIte, Nat.reduceEqDiff, eq_self, not_true_eq_false, not_false_eq_true, false_implies, true_implies, Classical.not_not, Nat.le_refl, Nat.zero_le, nI_1]
      try dsimp only
      exact c242_in hS hj hd hm hs hst hf ky kn k (i + 1) seen' I2 (by omega) h2 h'
    refine zW_ok hj B242_51 51 _ _ _ _ _ b242_51 ?_
    simp only [B242_51, zW, z_wp1, z_ld, z_f0, z_f1, z_f2, z_f3, List.getElem?_cons_zero, List.getElem?_cons_succ, true_and, and_true, Int32.reduceOfInt, z_i10, z_i01, Int32.reduceLT, Int32.reduceLE, Int32.reduceAdd, Int32.reduceSub, z_set, z_set2, z_kil, List.set_cons_zero, List.set_cons_succ, List.take_succ_cons, List.take_zero, List.drop_succ_cons, List.drop_zero, List.reverse_cons, List.reverse_nil, List.nil_append, List.cons_append, List.getD_cons_succ, List.getD_cons_zero, List.getD_nil, List.length_cons, List.length_nil, List.map_cons, List.map_nil, List.sum_cons, List.sum_nil, Nat.reduceAdd, Nat.reduceLeDiff, Value.category, Option.toList, true_or, or_true, z_ua, ↓reduceIte, Nat.reduceEqDiff, eq_self, not_true_eq_false, not_false_eq_true, false_implies, true_implies, Classical.not_not, Nat.le_refl, Nat.zero_le, sK71 hS, s5]
    try dsimp only
    refine ⟨fun q => absurd q (nI_ge (by omega) (by omega)), fun _ => ?_⟩
    refine z_callQ (c196s (I := I') hS hst1 (show i < N by omega) (nI f) k0 d1) (by omega) (by omega) (by omega) (Nat.le_of_ble_eq_true rfl) ?_
    rintro r h' ⟨rfl, I2, rfl, ho2⟩
    have hoff2 : m_off I I2 := fun q a b => (ho2 q a b).trans (hoff q a b)
    rw [eT I' hoff]
    simp only [zW, z_wp1, z_ld, z_f0, z_f1, z_f2, z_f3, List.getElem?_cons_zero, List.getElem?_cons_succ, true_and, and_true, Int32.reduceOfInt, z_i10, z_i01, Int32.reduceLT, Int32.reduceLE, Int32.reduceAdd, Int32.reduceSub, z_set, z_set2, z_kil, List.set_cons_zero, List.set_cons_succ, List.take_succ_cons, List.take_zero, List.drop_succ_cons, List.drop_zero, List.reverse_cons, List.reverse_nil, List.nil_append, List.cons_append, List.getD_cons_succ, List.getD_cons_zero, List.getD_nil, List.length_cons, List.length_nil, List.map_cons, List.map_nil, List.sum_cons, List.sum_nil, Nat.reduceAdd, Nat.reduceLeDiff, Value.category, Option.toList, true_or, or_true, z_ua, ↓reduceIte, Nat.reduceEqDiff, eq_self, not_true_eq_false, not_false_eq_true, false_implies, true_implies, Classical.not_not, Nat.le_refl, Nat.zero_le, sK71 hS]
    try dsimp only
    refine z_callQ (c196s (I := I2) hS (hoff2.sm.st hst) (show i < N by omega) (nI f) k0 d2) (by omega) (by omega) (by omega) (Nat.le_of_ble_eq_true rfl) ?_
    rintro r h' ⟨rfl, I3, rfl, ho3⟩
    have hoff3 : m_off I I3 := fun q a b => (ho3 q a b).trans (hoff2 q a b)
    rw [eT I2 hoff2]
    simp only [zW, z_wp1, z_ld, z_f0, z_f1, z_f2, z_f3, List.getElem?_cons_zero, List.getElem?_cons_succ, true_and, and_true, Int32.reduceOfInt, z_i10, z_i01, Int32.reduceLT, Int32.reduceLE, Int32.reduceAdd, Int32.reduceSub, z_set, z_set2, z_kil, List.set_cons_zero, List.set_cons_succ, List.take_succ_cons, List.take_zero, List.drop_succ_cons, List.drop_zero, List.reverse_cons, List.reverse_nil, List.nil_append, List.cons_append, List.getD_cons_succ, List.getD_cons_zero, List.getD_nil, List.length_cons, List.length_nil, List.map_cons, List.map_nil, List.sum_cons, List.sum_nil, Nat.reduceAdd, Nat.reduceLeDiff, Value.category, Option.toList, true_or, or_true, z_ua, ↓reduceIte, Nat.reduceEqDiff, eq_self, not_true_eq_false, not_false_eq_true, false_implies, true_implies, Classical.not_not, Nat.le_refl, Nat.zero_le]
    try dsimp only
    refine ⟨fun h1 => ?_, fun h1 => go seen I3 hoff3 (by rw [m_sc1, if_neg (fun q => q h1)] at ho; exact ho)⟩
    rw [m_sc1, if_pos (show m_chg I c tr k0 d1 d2 f i from h1)] at ho
    refine zW_ok hj B242_86 86 _ _ _ _ _ b242_86 ?_
    simp only [B242_86, zW, z_wp1, z_ld, z_f0, z_f1, z_f2, z_f3, List.getElem?_cons_zero, List.getElem?_cons_succ, true_and, and_true, Int32.reduceOfInt, z_i10, z_i01, Int32.reduceLT, Int32.reduceLE, Int32.reduceAdd, Int32.reduceSub, z_set, z_set2, z_kil, List.set_cons_zero, List.set_cons_succ, List.take_succ_cons, List.take_zero, List.drop_succ_cons, List.drop_zero, List.reverse_cons, List.reverse_nil, List.nil_append, List.cons_append, List.getD_cons_succ, List.getD_cons_zero, List.getD_nil, List.length_cons, List.length_nil, List.map_cons, List.map_nil, List.sum_cons, List.sum_nil, Nat.reduceAdd, Nat.reduceLeDiff, Value.category, Option.toList, true_or, or_true, z_ua, ↓reduceIte, Nat.reduceEqDiff, eq_self, not_true_eq_false, not_false_eq_true, false_implies, true_implies, Classical.not_not, Nat.le_refl, Nat.zero_le]
    try dsimp only
    refine ⟨fun h4 => ?_, fun h4 => ?_⟩
    · refine zW_ok hj B242_105 105 _ _ _ _ _ b242_105 ?_
      simp only [B242_105, zW, z_wp1, z_ld, z_f0, z_f1, z_f2, z_f3, List.getElem?_cons_zero, List.getElem?_cons_succ, true_and, and_true, Int32.reduceOfInt, z_i10, z_i01, Int32.reduceLT, Int32.reduceLE, Int32.reduceAdd, Int32.reduceSub, z_set, z_set2, z_kil, List.set_cons_zero, List.set_cons_succ, List.take_succ_cons, List.take_zero, List.drop_succ_cons, List.drop_zero, List.reverse_cons, List.reverse_nil, List.nil_append, List.cons_append, List.getD_cons_succ, List.getD_cons_zero, List.getD_nil, List.length_cons, List.length_nil, List.map_cons, List.map_nil, List.sum_cons, List.sum_nil, Nat.reduceAdd, Nat.reduceLeDiff, Value.category, Option.toList, true_or, or_true, z_ua, ↓reduceIte, Nat.reduceEqDiff, eq_self, not_true_eq_false, not_false_eq_true, false_implies, true_implies, Classical.not_not, Nat.le_refl, Nat.zero_le, nI_1]
      try dsimp only
      exact go (seen + 1) I3 hoff3 (by rw [if_neg h4] at ho; exact ho)
    · exact ky _ (by rw [if_pos h4] at ho; exact ho.symm) I3 hoff3
theorem c242_out {X : zX} (hS : SS K L G) (hj : X.2.1 = 242) (hd : X.2.2.1 = 3) (hm : X.2.2.2.1 = 0) (hs : X.2.2.2.2.1 = 0) (hst : m_st I c F N tr) {k0 d1 d2 w v : Int32} (hQ : ∀ r h', (r = some (.int v) ∧ ∃ I', h' = (n, K, L, I', J, G) ∧ m_off I I') → X.2.2.2.2.2.2 r h') : ∀ (k f seen : Nat) (I' : Nat → Nat → Int32), f + k = F → m_off I I' → m_sc2 (m_chg I c tr k0 d1 d2) (fun f i => 12 * nI f + nI i) w N k f seen = v →
      zV X 39 [some (.ref 71), some (.int k0), some (.int d1), some (.int d2), some (.int w), some (.int (nI seen)), some (.int (nI f)), none] [] (n, K, L, I', J, G) 0 0
  | 0, f, seen, I', hf, hoff, hv => by
    have e : f = F := by omega
    subst e
    obtain ⟨s1, s2, s3, s4, s5, s6, s7⟩ := hoff.sm.st hst
    rw [m_sc2] at hv
    refine zW_ok hj B242_39 39 _ _ _ _ _ b242_39 ?_
    simp only [B242_39, zW, z_wp1, z_ld, z_f0, z_f1, z_f2, z_f3, List.getElem?_cons_zero, List.getElem?_cons_succ, true_and, and_true, Int32.reduceOfInt, z_i10, z_i01, Int32.reduceLT, Int32.reduceLE, Int32.reduceAdd, Int32.reduceSub, z_set, z_set2, z_kil, List.set_cons_zero, List.set_cons_succ, List.take_succ_cons, List.take_zero, List.drop_succ_cons, List.drop_zero, List.reverse_cons, List.reverse_nil, List.nil_append, List.cons_append, List.getD_cons_succ, List.getD_cons_zero, List.getD_nil, List.length_cons, List.length_nil, List.map_cons, List.map_nil, List.sum_cons, List.sum_nil, Nat.reduceAdd, Nat.reduceLeDiff, Value.category, Option.toList, true_or, or_true, z_ua, ↓reduceIte, Nat.reduceEqDiff, eq_self, not_true_eq_false, not_false_eq_true, false_implies, true_implies, Classical.not_not, Nat.le_refl, Nat.zero_le, sK71 hS, s3]
    try dsimp only
    refine ⟨fun _ => ?_, fun q => absurd (nI_le (Nat.le_refl _) (by omega)) q⟩
    refine zW_ok hj B242_123 123 _ _ _ _ _ b242_123 ?_
    simp only [B242_123, zW, z_wp1, z_ld, z_f0, z_f1, z_f2, z_f3, List.getElem?_cons_zero, List.getElem?_cons_succ, true_and, and_true, Int32.reduceOfInt, z_i10, z_i01, Int32.reduceLT, Int32.reduceLE, Int32.reduceAdd, Int32.reduceSub, z_set, z_set2, z_kil, List.set_cons_zero, List.set_cons_succ, List.take_succ_cons, List.take_zero, List.drop_succ_cons, List.drop_zero, List.reverse_cons, List.reverse_nil, List.nil_append, List.cons_append, List.getD_cons_succ, List.getD_cons_zero, List.getD_nil, List.length_cons, List.length_nil, List.map_cons, List.map_nil, List.sum_cons, List.sum_nil, Nat.reduceAdd, Nat.reduceLeDiff, Value.category, Option.toList, true_or, or_true, z_ua, ↓reduceIte, Nat.reduceEqDiff, eq_self, not_true_eq_false, not_false_eq_true, false_implies, true_implies, Classical.not_not, Nat.le_refl, Nat.zero_le]
    try dsimp only
    refine ⟨fun h1 => ?_, fun h1 => ?_⟩
    · refine zW_ok hj B242_133 133 _ _ _ _ _ b242_133 ?_
      simp only [B242_133, zW, z_wp1, z_ld, z_f0, z_f1, z_f2, z_f3, List.getElem?_cons_zero, List.getElem?_cons_succ, true_and, and_true, Int32.reduceOfInt, z_i10, z_i01, Int32.reduceLT, Int32.reduceLE, Int32.reduceAdd, Int32.reduceSub, z_set, z_set2, z_kil, List.set_cons_zero, List.set_cons_succ, List.take_succ_cons, List.take_zero, List.drop_succ_cons, List.drop_zero, List.reverse_cons, List.reverse_nil, List.nil_append, List.cons_append, List.getD_cons_succ, List.getD_cons_zero, List.getD_nil, List.length_cons, List.length_nil, List.map_cons, List.map_nil, List.sum_cons, List.sum_nil, Nat.reduceAdd, Nat.reduceLeDiff, Value.category, Option.toList, true_or, or_true, z_ua, ↓reduceIte, Nat.reduceEqDiff, eq_self, not_true_eq_false, not_false_eq_true, false_implies, true_implies, Classical.not_not, Nat.le_refl, Nat.zero_le]
      try dsimp only
      refine zW_ok hj B242_134 134 _ _ _ _ _ b242_134 ?_
      simp only [B242_134, zW, z_wp1, z_ld, z_f0, z_f1, z_f2, z_f3, List.getElem?_cons_zero, List.getElem?_cons_succ, true_and, and_true, Int32.reduceOfInt, z_i10, z_i01, Int32.reduceLT, Int32.reduceLE, Int32.reduceAdd, Int32.reduceSub, z_set, z_set2, z_kil, List.set_cons_zero, List.set_cons_succ, List.take_succ_cons, List.take_zero, List.drop_succ_cons, List.drop_zero, List.reverse_cons, List.reverse_nil, List.nil_append, List.cons_append, List.getD_cons_succ, List.getD_cons_zero, List.getD_nil, List.length_cons, List.length_nil, List.map_cons, List.map_nil, List.sum_cons, List.sum_nil, Nat.reduceAdd, Nat.reduceLeDiff, Value.category, Option.toList, true_or, or_true, z_ua, ↓reduceIte, Nat.reduceEqDiff, eq_self, not_true_eq_false, not_false_eq_true, false_implies, true_implies, Classical.not_not, Nat.le_refl, Nat.zero_le]
      try dsimp only
      exact hQ _ _ ⟨by rw [← hv, if_neg h1], I', rfl, hoff⟩
    · refine zW_ok hj B242_134 134 _ _ _ _ _ b242_134 ?_
      simp only [B242_134, zW, z_wp1, z_ld, z_f0, z_f1, z_f2, z_f3, List.getElem?_cons_zero, List.getElem?_cons_succ, true_and, and_true, Int32.reduceOfInt, z_i10, z_i01, Int32.reduceLT, Int32.reduceLE, Int32.reduceAdd, Int32.reduceSub, z_set, z_set2, z_kil, List.set_cons_zero, List.set_cons_succ, List.take_succ_cons, List.take_zero, List.drop_succ_cons, List.drop_zero, List.reverse_cons, List.reverse_nil, List.nil_append, List.cons_append, List.getD_cons_succ, List.getD_cons_zero, List.getD_nil, List.length_cons, List.length_nil, List.map_cons, List.map_nil, List.sum_cons, List.sum_nil, Nat.reduceAdd, Nat.reduceLeDiff, Value.category, Option.toList, true_or, or_true, z_ua, ↓reduceIte, Nat.reduceEqDiff, eq_self, not_true_eq_false, not_false_eq_true, false_implies, true_implies, Classical.not_not, Nat.le_refl, Nat.zero_le]
      try dsimp only
      exact hQ _ _ ⟨by rw [← hv, if_pos h1], I', rfl, hoff⟩
  | k + 1, f, seen, I', hf, hoff, hv => by
    obtain ⟨s1, s2, s3, s4, s5, s6, s7⟩ := hoff.sm.st hst
    have inn := c242_in (n := n) (K := K) (L := L) (J := J) (G := G) hS hj hd hm hs hst (k0 := k0) (d1 := d1) (d2 := d2) (w := w) (f := f) (by omega) (o := m_sc1 (m_chg I c tr k0 d1 d2 f) (fun i => 12 * nI f + nI i) w N 0 seen) (fun u hu I2 h2 => hQ _ _ ⟨by rw [m_sc2, hu] at hv; rw [← hv], I2, rfl, h2⟩) (fun s hsn I2 h2 => by
      refine zW_ok hj B242_117 117 _ _ _ _ _ b242_117 ?_
      simp only [B242_117, zW, z_wp1, z_ld, z_f0, z_f1, z_f2, z_f3, List.getElem?_cons_zero, List.getElem?_cons_succ, true_and, and_true, Int32.reduceOfInt, z_i10, z_i01, Int32.reduceLT, Int32.reduceLE, Int32.reduceAdd, Int32.reduceSub, z_set, z_set2, z_kil, List.set_cons_zero, List.set_cons_succ, List.take_succ_cons, List.take_zero, List.drop_succ_cons, List.drop_zero, List.reverse_cons, List.reverse_nil, List.nil_append, List.cons_append, List.getD_cons_succ, List.getD_cons_zero, List.getD_nil, List.length_cons, List.length_nil, List.map_cons, List.map_nil, List.sum_cons, List.sum_nil, Nat.reduceAdd, Nat.reduceLeDiff, Value.category, Option.toList, true_or, or_true, z_ua, ↓reduceIte, Nat.reduceEqDiff, eq_self, not_true_eq_false, not_false_eq_true, false_implies, true_implies, Classical.not_not, Nat.le_refl, Nat.zero_le, nI_1]
      try dsimp only
      exact (c242_out hS hj hd hm hs hst hQ k (f + 1) s I2 (by omega) h2 (by rw [m_sc2, hsn] at hv; exact hv)).weak (by simp only [z_le]; simp)) N 0 seen I' (by omega) hoff rfl
    refine zW_ok hj B242_39 39 _ _ _ _ _ b242_39 ?_
    simp only [B242_39, zW, z_wp1, z_ld, z_f0, z_f1, z_f2, z_f3, List.getElem?_cons_zero, List.getElem?_cons_succ, true_and, and_true, Int32.reduceOfInt, z_i10, z_i01, Int32.reduceLT, Int32.reduceLE, Int32.reduceAdd, Int32.reduceSub, z_set, z_set2, z_kil, List.set_cons_zero, List.set_cons_succ, List.take_succ_cons, List.take_zero, List.drop_succ_cons, List.drop_zero, List.reverse_cons, List.reverse_nil, List.nil_append, List.cons_append, List.getD_cons_succ, List.getD_cons_zero, List.getD_nil, List.length_cons, List.length_nil, List.map_cons, List.map_nil, List.sum_cons, List.sum_nil, Nat.reduceAdd, Nat.reduceLeDiff, Value.category, Option.toList, true_or, or_true, z_ua, ↓reduceIte, Nat.reduceEqDiff, eq_self, not_true_eq_false, not_false_eq_true, false_implies, true_implies, Classical.not_not, Nat.le_refl, Nat.zero_le, sK71 hS, s3]
    try dsimp only
    refine ⟨fun q => absurd q (nI_ge (by omega) (by omega)), fun _ => inn⟩
/-- changed -/
theorem c242a (hS : SS K L G) (hst : m_st I c F N tr) {k0 d1 d2 w : Int32} (h1 : 0 ≤ k0 ∧ k0 ≤ 2) (h2 : 0 ≤ d1 ∧ d1 ≤ 999) (h3 : 0 ≤ d2 ∧ d2 ≤ 999) : z_Ctr l 3 242 [.ref 71, .int k0, .int d1, .int d2, .int w] (n, K, L, I, J, G) 0 0 (fun r h' => r = some (.int (m_sc2 (m_chg I c tr k0 d1 d2) (fun f i => 12 * nI f + nI i) w N F 0 0)) ∧ ∃ I', h' = (n, K, L, I', J, G) ∧ mF I I') := by
  refine z_ctr (by decide) (by decide +kernel) (Nat.le_of_ble_eq_true rfl) (by decide +kernel) (fun X hl hj hd hm hs hsc hQ => ?_)
  show zV X 0 [some (.ref 71), some (.int k0), some (.int d1), some (.int d2), some (.int w), none, none, none] [] _ 0 0
  refine zW_ok hj B242_0 0 _ _ _ _ _ b242_0 ?_
  simp only [B242_0, zW, z_wp1, z_ld, z_f0, z_f1, z_f2, z_f3, List.getElem?_cons_zero, List.getElem?_cons_succ, true_and, and_true, Int32.reduceOfInt, z_i10, z_i01, Int32.reduceLT, Int32.reduceLE, Int32.reduceAdd, Int32.reduceSub, z_set, z_set2, z_kil, List.set_cons_zero, List.set_cons_succ, List.take_succ_cons, List.take_zero, List.drop_succ_cons, List.drop_zero, List.reverse_cons, List.reverse_nil, List.nil_append, List.cons_append, List.getD_cons_succ, List.getD_cons_zero, List.getD_nil, List.length_cons, List.length_nil, List.map_cons, List.map_nil, List.sum_cons, List.sum_nil, Nat.reduceAdd, Nat.reduceLeDiff, Value.category, Option.toList, true_or, or_true, z_ua, ↓reduceIte, Nat.reduceEqDiff, eq_self, not_true_eq_false, not_false_eq_true, false_implies, true_implies, Classical.not_not, Nat.le_refl, Nat.zero_le, sK71 hS]
  try dsimp only
  refine z_callD (c160 hS k0 0 2) (by omega) (by omega) (by omega) (Nat.le_of_ble_eq_true rfl) ?_
  try simp only [zW, z_wp1, z_ld, z_f0, z_f1, z_f2, z_f3, List.getElem?_cons_zero, List.getElem?_cons_succ, true_and, and_true, Int32.reduceOfInt, z_i10, z_i01, Int32.reduceLT, Int32.reduceLE, Int32.reduceAdd, Int32.reduceSub, z_set, z_set2, z_kil, List.set_cons_zero, List.set_cons_succ, List.take_succ_cons, List.take_zero, List.drop_succ_cons, List.drop_zero, List.reverse_cons, List.reverse_nil, List.nil_append, List.cons_append, List.getD_cons_succ, List.getD_cons_zero, List.getD_nil, List.length_cons, List.length_nil, List.map_cons, List.map_nil, List.sum_cons, List.sum_nil, Nat.reduceAdd, Nat.reduceLeDiff, Value.category, Option.toList, true_or, or_true, z_ua, ↓reduceIte, Nat.reduceEqDiff, eq_self, not_true_eq_false, not_false_eq_true, false_implies, true_implies, Classical.not_not, Nat.le_refl, Nat.zero_le, sK71 hS, z_b1 h1]
  try dsimp only
  refine z_callD (c162 hS d1) (by omega) (by omega) (by omega) (Nat.le_of_ble_eq_true rfl) ?_
  try simp only [zW, z_wp1, z_ld, z_f0, z_f1, z_f2, z_f3, List.getElem?_cons_zero, List.getElem?_cons_succ, true_and, and_true, Int32.reduceOfInt, z_i10, z_i01, Int32.reduceLT, Int32.reduceLE, Int32.reduceAdd, Int32.reduceSub, z_set, z_set2, z_kil, List.set_cons_zero, List.set_cons_succ, List.take_succ_cons, List.take_zero, List.drop_succ_cons, List.drop_zero, List.reverse_cons, List.reverse_nil, List.nil_append, List.cons_append, List.getD_cons_succ, List.getD_cons_zero, List.getD_nil, List.length_cons, List.length_nil, List.map_cons, List.map_nil, List.sum_cons, List.sum_nil, Nat.reduceAdd, Nat.reduceLeDiff, Value.category, Option.toList, true_or, or_true, z_ua, ↓reduceIte, Nat.reduceEqDiff, eq_self, not_true_eq_false, not_false_eq_true, false_implies, true_implies, Classical.not_not, Nat.le_refl, Nat.zero_le, sK71 hS, z_b1 h2]
  try dsimp only
  refine z_callD (c162 hS d2) (by omega) (by omega) (by omega) (Nat.le_of_ble_eq_true rfl) ?_
  try simp only [zW, z_wp1, z_ld, z_f0, z_f1, z_f2, z_f3, List.getElem?_cons_zero, List.getElem?_cons_succ, true_and, and_true, Int32.reduceOfInt, z_i10, z_i01, Int32.reduceLT, Int32.reduceLE, Int32.reduceAdd, Int32.reduceSub, z_set, z_set2, z_kil, List.set_cons_zero, List.set_cons_succ, List.take_succ_cons, List.take_zero, List.drop_succ_cons, List.drop_zero, List.reverse_cons, List.reverse_nil, List.nil_append, List.cons_append, List.getD_cons_succ, List.getD_cons_zero, List.getD_nil, List.length_cons, List.length_nil, List.map_cons, List.map_nil, List.sum_cons, List.sum_nil, Nat.reduceAdd, Nat.reduceLeDiff, Value.category, Option.toList, true_or, or_true, z_ua, ↓reduceIte, Nat.reduceEqDiff, eq_self, not_true_eq_false, not_false_eq_true, false_implies, true_implies, Classical.not_not, Nat.le_refl, Nat.zero_le, sK71 hS, z_b1 h3]
  try dsimp only
  refine zW_ok hj B242_33 33 _ _ _ _ _ b242_33 ?_
  simp only [B242_33, zW, z_wp1, z_ld, z_f0, z_f1, z_f2, z_f3, List.getElem?_cons_zero, List.getElem?_cons_succ, true_and, and_true, Int32.reduceOfInt, z_i10, z_i01, Int32.reduceLT, Int32.reduceLE, Int32.reduceAdd, Int32.reduceSub, z_set, z_set2, z_kil, List.set_cons_zero, List.set_cons_succ, List.take_succ_cons, List.take_zero, List.drop_succ_cons, List.drop_zero, List.reverse_cons, List.reverse_nil, List.nil_append, List.cons_append, List.getD_cons_succ, List.getD_cons_zero, List.getD_nil, List.length_cons, List.length_nil, List.map_cons, List.map_nil, List.sum_cons, List.sum_nil, Nat.reduceAdd, Nat.reduceLeDiff, Value.category, Option.toList, true_or, or_true, z_ua, ↓reduceIte, Nat.reduceEqDiff, eq_self, not_true_eq_false, not_false_eq_true, false_implies, true_implies, Classical.not_not, Nat.le_refl, Nat.zero_le]
  try dsimp only
  refine c242_out (I := m_t I) hS hj hd hm hs ((m_sm.t I).st hst) ?_ F 0 0 (m_t I) (by omega) (fun _ _ _ => rfl) rfl
  rintro r h' ⟨rfl, I', rfl, ho⟩
  exact hQ _ _ ⟨rfl, I', rfl, (mF.t I).tr ho.F⟩
theorem c242b (hS : SS K L G) {k0 d1 d2 w : Int32} (h : ¬ ((0 ≤ k0 ∧ k0 ≤ 2) ∧ (0 ≤ d1 ∧ d1 ≤ 999) ∧ (0 ≤ d2 ∧ d2 ≤ 999))) : z_D l 3 242 [.ref 71, .int k0, .int d1, .int d2, .int w] (n, K, L, I, J, G) (some (.int (-1))) (n, K, L, m_t I, J, G) := by
  refine z_ctr (by decide) (by decide +kernel) (Nat.le_of_ble_eq_true rfl) (by decide +kernel) (fun X hl hj hd hm hs hsc hQ => ?_)
  show zV X 0 [some (.ref 71), some (.int k0), some (.int d1), some (.int d2), some (.int w), none, none, none] [] _ 0 0
  have no : zV X 31 [some (.ref 71), some (.int k0), some (.int d1), some (.int d2), some (.int w), none, none, none] [] (n, K, L, m_t I, J, G) 0 0 := by
    refine zW_ok hj B242_31 31 _ _ _ _ _ b242_31 ?_
    simp only [B242_31, zW, z_wp1, z_ld, z_f0, z_f1, z_f2, z_f3, List.getElem?_cons_zero, List.getElem?_cons_succ, true_and, and_true, Int32.reduceOfInt, z_i10, z_i01, Int32.reduceLT, Int32.reduceLE, Int32.reduceAdd, Int32.reduceSub, z_set, z_set2, z_kil, List.set_cons_zero, List.set_cons_succ, List.take_succ_cons, List.take_zero, List.drop_succ_cons, List.drop_zero, List.reverse_cons, List.reverse_nil, List.nil_append, List.cons_append, List.getD_cons_succ, List.getD_cons_zero, List.getD_nil, List.length_cons, List.length_nil, List.map_cons, List.map_nil, List.sum_cons, List.sum_nil, Nat.reduceAdd, Nat.reduceLeDiff, Value.category, Option.toList, true_or, or_true, z_ua, ↓reduceIte, Nat.reduceEqDiff, eq_self, not_true_eq_false, not_false_eq_true, false_implies, true_implies, Classical.not_not, Nat.le_refl, Nat.zero_le]
    try dsimp only
    exact hQ _ _ ⟨rfl, rfl⟩
  refine zW_ok hj B242_0 0 _ _ _ _ _ b242_0 ?_
  simp only [B242_0, zW, z_wp1, z_ld, z_f0, z_f1, z_f2, z_f3, List.getElem?_cons_zero, List.getElem?_cons_succ, true_and, and_true, Int32.reduceOfInt, z_i10, z_i01, Int32.reduceLT, Int32.reduceLE, Int32.reduceAdd, Int32.reduceSub, z_set, z_set2, z_kil, List.set_cons_zero, List.set_cons_succ, List.take_succ_cons, List.take_zero, List.drop_succ_cons, List.drop_zero, List.reverse_cons, List.reverse_nil, List.nil_append, List.cons_append, List.getD_cons_succ, List.getD_cons_zero, List.getD_nil, List.length_cons, List.length_nil, List.map_cons, List.map_nil, List.sum_cons, List.sum_nil, Nat.reduceAdd, Nat.reduceLeDiff, Value.category, Option.toList, true_or, or_true, z_ua, ↓reduceIte, Nat.reduceEqDiff, eq_self, not_true_eq_false, not_false_eq_true, false_implies, true_implies, Classical.not_not, Nat.le_refl, Nat.zero_le, sK71 hS]
  try dsimp only
  refine z_callD (c160 hS k0 0 2) (by omega) (by omega) (by omega) (Nat.le_of_ble_eq_true rfl) ?_
  try simp only [zW, z_wp1, z_ld, z_f0, z_f1, z_f2, z_f3, List.getElem?_cons_zero, List.getElem?_cons_succ, true_and, and_true, Int32.reduceOfInt, z_i10, z_i01, Int32.reduceLT, Int32.reduceLE, Int32.reduceAdd, Int32.reduceSub, z_set, z_set2, z_kil, List.set_cons_zero, List.set_cons_succ, List.take_succ_cons, List.take_zero, List.drop_succ_cons, List.drop_zero, List.reverse_cons, List.reverse_nil, List.nil_append, List.cons_append, List.getD_cons_succ, List.getD_cons_zero, List.getD_nil, List.length_cons, List.length_nil, List.map_cons, List.map_nil, List.sum_cons, List.sum_nil, Nat.reduceAdd, Nat.reduceLeDiff, Value.category, Option.toList, true_or, or_true, z_ua, ↓reduceIte, Nat.reduceEqDiff, eq_self, not_true_eq_false, not_false_eq_true, false_implies, true_implies, Classical.not_not, Nat.le_refl, Nat.zero_le, sK71 hS, z_b_eq]
  try dsimp only
  refine ⟨fun _ => no, fun h1 => ?_⟩
  refine z_callD (c162 hS d1) (by omega) (by omega) (by omega) (Nat.le_of_ble_eq_true rfl) ?_
  try simp only [zW, z_wp1, z_ld, z_f0, z_f1, z_f2, z_f3, List.getElem?_cons_zero, List.getElem?_cons_succ, true_and, and_true, Int32.reduceOfInt, z_i10, z_i01, Int32.reduceLT, Int32.reduceLE, Int32.reduceAdd, Int32.reduceSub, z_set, z_set2, z_kil, List.set_cons_zero, List.set_cons_succ, List.take_succ_cons, List.take_zero, List.drop_succ_cons, List.drop_zero, List.reverse_cons, List.reverse_nil, List.nil_append, List.cons_append, List.getD_cons_succ, List.getD_cons_zero, List.getD_nil, List.length_cons, List.length_nil, List.map_cons, List.map_nil, List.sum_cons, List.sum_nil, Nat.reduceAdd, Nat.reduceLeDiff, Value.category, Option.toList, true_or, or_true, z_ua, ↓reduceIte, Nat.reduceEqDiff, eq_self, not_true_eq_false, not_false_eq_true, false_implies, true_implies, Classical.not_not, Nat.le_refl, Nat.zero_le, sK71 hS, z_b_eq]
  try dsimp only
  refine ⟨fun _ => no, fun h2 => ?_⟩
  refine z_callD (c162 hS d2) (by omega) (by omega) (by omega) (Nat.le_of_ble_eq_true rfl) ?_
  try simp only [zW, z_wp1, z_ld, z_f0, z_f1, z_f2, z_f3, List.getElem?_cons_zero, List.getElem?_cons_succ, true_and, and_true, Int32.reduceOfInt, z_i10, z_i01, Int32.reduceLT, Int32.reduceLE, Int32.reduceAdd, Int32.reduceSub, z_set, z_set2, z_kil, List.set_cons_zero, List.set_cons_succ, List.take_succ_cons, List.take_zero, List.drop_succ_cons, List.drop_zero, List.reverse_cons, List.reverse_nil, List.nil_append, List.cons_append, List.getD_cons_succ, List.getD_cons_zero, List.getD_nil, List.length_cons, List.length_nil, List.map_cons, List.map_nil, List.sum_cons, List.sum_nil, Nat.reduceAdd, Nat.reduceLeDiff, Value.category, Option.toList, true_or, or_true, z_ua, ↓reduceIte, Nat.reduceEqDiff, eq_self, not_true_eq_false, not_false_eq_true, false_implies, true_implies, Classical.not_not, Nat.le_refl, Nat.zero_le, sK71 hS, z_b_eq]
  try dsimp only
  exact ⟨fun h3 => absurd ⟨h1, h2, h3⟩ h, fun _ => no⟩
theorem c224_in {X : zX} (hS : SS K L G) (hj : X.2.1 = 224) {set asked : Int32} {i : Nat} (hi12 : i < 12) (hF : I 71 1 = nI F) (hF16 : F ≤ 16) (kk : ∀ I', (∀ q, q ≠ 94 → I' q = I q) → (∀ g, g ≠ i → I' 94 g = I 94 g) → I' 94 i = m_hold (I 86) set i F → ∀ x : Option Value, zV X 88 [some (.ref 71), some (.int set), some (.int asked), some (.int (nI i)), x] [] (n, K, L, I', J, G) 0 0) : ∀ (k f : Nat) (I' : Nat → Nat → Int32), f + k = F → (∀ q, q ≠ 94 → I' q = I q) → (∀ g, g ≠ i → I' 94 g = I 94 g) → I' 94 i = m_hold (I 86) set i f →
      zV X 31 [some (.ref 71), some (.int set), some (.int asked), some (.int (nI i)), some (.int (nI f))] [] (n, K, L, I', J, G) 0 0
  | 0, f, I', hf, ho, hg, hr => by
    have e : f = F := by omega
    subst e
    have g71 : I' 71 = I 71 := ho 71 (by decide)
    refine zW_ok hj B224_31 31 _ _ _ _ _ b224_31 ?_
    simp only [B224_31, zW, z_wp1, z_ld, z_f0, z_f1, z_f2, z_f3, List.getElem?_cons_zero, List.getElem?_cons_succ, true_and, and_true, Int32.reduceOfInt, z_i10, z_i01, Int32.reduceLT, Int32.reduceLE, Int32.reduceAdd, Int32.reduceSub, z_set, z_set2, z_kil, List.set_cons_zero, List.set_cons_succ, List.take_succ_cons, List.take_zero, List.drop_succ_cons, List.drop_zero, List.reverse_cons, List.reverse_nil, List.nil_append, List.cons_append, List.getD_cons_succ, List.getD_cons_zero, List.getD_nil, List.length_cons, List.length_nil, List.map_cons, List.map_nil, List.sum_cons, List.sum_nil, Nat.reduceAdd, Nat.reduceLeDiff, Value.category, Option.toList, true_or, or_true, z_ua, ↓reduceIte, Nat.reduceEqDiff, eq_self, not_true_eq_false, not_false_eq_true, false_implies, true_implies, Classical.not_not, Nat.le_refl, Nat.zero_le, sK71 hS, g71, hF]
    try dsimp only
    exact ⟨fun _ => kk I' ho hg hr _, fun q => absurd (nI_le (Nat.le_refl _) (by omega)) q⟩
  | k + 1, f, I', hf, ho, hg, hr => by
    have g71 : I' 71 = I 71 := ho 71 (by decide)
    have g86 : I' 86 = I 86 := ho 86 (by decide)
    have ef : (nI f).toNatClampNeg = f := nI_clamp (by omega)
    have vf : vp_in (nI f) 16 := vp_in_nI (by omega) (by omega)
    have ei : (nI i).toNatClampNeg = i := nI_clamp (by omega)
    have vi : vp_in (nI i) 12 := vp_in_nI (by omega) (by omega)
    have go : ∀ I2 : Nat → Nat → Int32, (∀ q, q ≠ 94 → I2 q = I q) → (∀ g, g ≠ i → I2 94 g = I 94 g) → I2 94 i = m_hold (I 86) set i (f + 1) → zV X 82 [some (.ref 71), some (.int set), some (.int asked), some (.int (nI i)), some (.int (nI f))] [] (n, K, L, I2, J, G) 0 0 := by
      intro I2 h1 h2 h3
      refine zW_ok hj B224_82 82 _ _ _ _ _ b224_82 ?_
      simp only [B224_82, zW, z_wp1, z_ld, z_f0, z_f1, z_f2, z_f3, List.getElem?_cons_zero, List.getElem?_cons_succ, true_and, and_true, Int32.reduceOfInt, z_i10, z_i01, Int32.reduceLT, Int32.reduceLE, Int32.reduceAdd, Int32.reduceSub, z_set, z_set2, z_kil, List.set_cons_zero, List.set_cons_succ, List.take_succ_cons, List.take_zero, List.drop_succ_cons, List.drop_zero, List.reverse_cons, List.reverse_nil, List.nil_append, List.cons_append, List.getD_cons_succ, List.getD_cons_zero, List.getD_nil, List.length_cons, List.length_nil, List.map_cons, List.map_nil, List.sum_cons, List.sum_nil, Nat.reduceAdd, Nat.reduceLeDiff, Value.category, Option.toList, true_or, or_true, z_ua, ↓reduceIte, Nat.reduceEqDiff, eq_self, not_true_eq_false, not_false_eq_true, false_implies, true_implies, Classical.not_not, Nat.le_refl, Nat.zero_le, nI_1]
      try dsimp only
      exact c224_in hS hj hi12 hF hF16 kk k (f + 1) I2 (by omega) h1 h2 h3
    refine zW_ok hj B224_31 31 _ _ _ _ _ b224_31 ?_
    simp only [B224_31, zW, z_wp1, z_ld, z_f0, z_f1, z_f2, z_f3, List.getElem?_cons_zero, List.getElem?_cons_succ, true_and, and_true, Int32.reduceOfInt, z_i10, z_i01, Int32.reduceLT, Int32.reduceLE, Int32.reduceAdd, Int32.reduceSub, z_set, z_set2, z_kil, List.set_cons_zero, List.set_cons_succ, List.take_succ_cons, List.take_zero, List.drop_succ_cons, List.drop_zero, List.reverse_cons, List.reverse_nil, List.nil_append, List.cons_append, List.getD_cons_succ, List.getD_cons_zero, List.getD_nil, List.length_cons, List.length_nil, List.map_cons, List.map_nil, List.sum_cons, List.sum_nil, Nat.reduceAdd, Nat.reduceLeDiff, Value.category, Option.toList, true_or, or_true, z_ua, ↓reduceIte, Nat.reduceEqDiff, eq_self, not_true_eq_false, not_false_eq_true, false_implies, true_implies, Classical.not_not, Nat.le_refl, Nat.zero_le, sK71 hS, g71, hF, sG71_32 hS, sK86 hS, sL86 hS, sG71_48 hS, sK94 hS, sL94 hS, ef, vf, ei, vi, g86]
    try dsimp only
    refine ⟨fun q => absurd q (nI_ge (by omega) (by omega)), fun _ => ⟨fun h1 => go I' ho hg ?_, fun h1 => ⟨fun h2 => go I' ho hg ?_, fun h2 => go _ (fun q hq => by rw [z_u_ne hq]; exact ho q hq) (fun g h => by rw [z_u_at, if_neg h]; exact hg g h) ?_⟩⟩⟩
    · rw [m_hold, if_neg (fun z => h1 z.1)]; exact hr
    · rw [m_hold, if_neg (fun z => h2 z.2)]; exact hr
    · rw [z_u_at, if_pos rfl, m_hold, if_pos ⟨h1, h2⟩, hr]
theorem c224_out {X : zX} (hS : SS K L G) (hj : X.2.1 = 224) {set asked : Int32} (hF : I 71 1 = nI F) (hF16 : F ≤ 16) (hN : I 71 17 = nI N) (hN12 : N ≤ 12) (hQ : ∀ r h', (r = none ∧ ∃ I', h' = (n, K, L, I', J, G) ∧ (∀ q, q ≠ 94 → I' q = I q) ∧ ∀ i, i < N → I' 94 i = m_ho (I 86) set asked F i) → X.2.2.2.2.2.2 r h') : ∀ (k i : Nat) (I' : Nat → Nat → Int32), i + k = N → (∀ q, q ≠ 94 → I' q = I q) → (∀ g, g < i → I' 94 g = m_ho (I 86) set asked F g) →
      zV X 2 [some (.ref 71), some (.int set), some (.int asked), some (.int (nI i)), none] [] (n, K, L, I', J, G) 0 0
  | 0, i, I', hi, ho, hg => by
    have e : i = N := by omega
    subst e
    have g71 : I' 71 = I 71 := ho 71 (by decide)
    refine zW_ok hj B224_2 2 _ _ _ _ _ b224_2 ?_
    simp only [B224_2, zW, z_wp1, z_ld, z_f0, z_f1, z_f2, z_f3, List.getElem?_cons_zero, List.getElem?_cons_succ, true_and, and_true, Int32.reduceOfInt, z_i10, z_i01, Int32.reduceLT, Int32.reduceLE, Int32.reduceAdd, Int32.reduceSub, z_set, z_set2, z_kil, List.set_cons_zero, List.set_cons_succ, List.take_succ_cons, List.take_zero, List.drop_succ_cons, List.drop_zero, List.reverse_cons, List.reverse_nil, List.nil_append, List.cons_append, List.getD_cons_succ, List.getD_cons_zero, List.getD_nil, List.length_cons, List.length_nil, List.map_cons, List.map_nil, List.sum_cons, List.sum_nil, Nat.reduceAdd, Nat.reduceLeDiff, Value.category, Option.toList, true_or, or_true, z_ua, ↓reduceIte, Nat.reduceEqDiff, eq_self, not_true_eq_false, not_false_eq_true, false_implies, true_implies, Classical.not_not, Nat.le_refl, Nat.zero_le, sK71 hS, g71, hN]
    try dsimp only
    refine ⟨fun _ => ?_, fun q => absurd (nI_le (Nat.le_refl _) (by omega)) q⟩
    refine zW_ok hj B224_94 94 _ _ _ _ _ b224_94 ?_
    simp only [B224_94, zW, z_wp1, z_ld, z_f0, z_f1, z_f2, z_f3, List.getElem?_cons_zero, List.getElem?_cons_succ, true_and, and_true, Int32.reduceOfInt, z_i10, z_i01, Int32.reduceLT, Int32.reduceLE, Int32.reduceAdd, Int32.reduceSub, z_set, z_set2, z_kil, List.set_cons_zero, List.set_cons_succ, List.take_succ_cons, List.take_zero, List.drop_succ_cons, List.drop_zero, List.reverse_cons, List.reverse_nil, List.nil_append, List.cons_append, List.getD_cons_succ, List.getD_cons_zero, List.getD_nil, List.length_cons, List.length_nil, List.map_cons, List.map_nil, List.sum_cons, List.sum_nil, Nat.reduceAdd, Nat.reduceLeDiff, Value.category, Option.toList, true_or, or_true, z_ua, ↓reduceIte, Nat.reduceEqDiff, eq_self, not_true_eq_false, not_false_eq_true, false_implies, true_implies, Classical.not_not, Nat.le_refl, Nat.zero_le]
    try dsimp only
    exact hQ _ _ ⟨rfl, I', rfl, ho, hg⟩
  | k + 1, i, I', hi, ho, hg => by
    have g71 : I' 71 = I 71 := ho 71 (by decide)
    have g86 : I' 86 = I 86 := ho 86 (by decide)
    have ei : (nI i).toNatClampNeg = i := nI_clamp (by omega)
    have vi : vp_in (nI i) 12 := vp_in_nI (by omega) (by omega)
    have go : ∀ (I2 : Nat → Nat → Int32) (x : Option Value), (∀ q, q ≠ 94 → I2 q = I q) → (∀ g, g < i → I2 94 g = I' 94 g) → I2 94 i = m_ho (I 86) set asked F i → zV X 88 [some (.ref 71), some (.int set), some (.int asked), some (.int (nI i)), x] [] (n, K, L, I2, J, G) 0 0 := by
      intro I2 x h1 h2 h3
      refine zW_ok hj B224_88 88 _ _ _ _ _ b224_88 ?_
      simp only [B224_88, zW, z_wp1, z_ld, z_f0, z_f1, z_f2, z_f3, List.getElem?_cons_zero, List.getElem?_cons_succ, true_and, and_true, Int32.reduceOfInt, z_i10, z_i01, Int32.reduceLT, Int32.reduceLE, Int32.reduceAdd, Int32.reduceSub, z_set, z_set2, z_kil, List.set_cons_zero, List.set_cons_succ, List.take_succ_cons, List.take_zero, List.drop_succ_cons, List.drop_zero, List.reverse_cons, List.reverse_nil, List.nil_append, List.cons_append, List.getD_cons_succ, List.getD_cons_zero, List.getD_nil, List.length_cons, List.length_nil, List.map_cons, List.map_nil, List.sum_cons, List.sum_nil, Nat.reduceAdd, Nat.reduceLeDiff, Value.category, Option.toList, true_or, or_true, z_ua, ↓reduceIte, Nat.reduceEqDiff, eq_self, not_true_eq_false, not_false_eq_true, false_implies, true_implies, Classical.not_not, Nat.le_refl, Nat.zero_le, nI_1]
      try dsimp only
      refine (c224_out hS hj hF hF16 hN hN12 hQ k (i + 1) I2 (by omega) h1 (fun g hg' => ?_)).weak (by simp only [z_le]; simp)
      rcases Nat.lt_or_ge g i with q | q
      · rw [h2 g q]; exact hg g q
      · rw [show g = i by omega]; exact h3
    refine zW_ok hj B224_2 2 _ _ _ _ _ b224_2 ?_
    simp only [B224_2, zW, z_wp1, z_ld, z_f0, z_f1, z_f2, z_f3, List.getElem?_cons_zero, List.getElem?_cons_succ, true_and, and_true, Int32.reduceOfInt, z_i10, z_i01, Int32.reduceLT, Int32.reduceLE, Int32.reduceAdd, Int32.reduceSub, z_set, z_set2, z_kil, List.set_cons_zero, List.set_cons_succ, List.take_succ_cons, List.take_zero, List.drop_succ_cons, List.drop_zero, List.reverse_cons, List.reverse_nil, List.nil_append, List.cons_append, List.getD_cons_succ, List.getD_cons_zero, List.getD_nil, List.length_cons, List.length_nil, List.map_cons, List.map_nil, List.sum_cons, List.sum_nil, Nat.reduceAdd, Nat.reduceLeDiff, Value.category, Option.toList, true_or, or_true, z_ua, ↓reduceIte, Nat.reduceEqDiff, eq_self, not_true_eq_false, not_false_eq_true, false_implies, true_implies, Classical.not_not, Nat.le_refl, Nat.zero_le, sK71 hS, g71, hN, sG71_48 hS, sK94 hS, sL94 hS, ei, vi]
    try dsimp only
    refine ⟨fun q => absurd q (nI_ge (by omega) (by omega)), fun _ => ⟨fun h1 => ?_, fun h1 => ?_⟩⟩
    · refine zW_ok hj B224_28 28 _ _ _ _ _ b224_28 ?_
      simp only [B224_28, zW, z_wp1, z_ld, z_f0, z_f1, z_f2, z_f3, List.getElem?_cons_zero, List.getElem?_cons_succ, true_and, and_true, Int32.reduceOfInt, z_i10, z_i01, Int32.reduceLT, Int32.reduceLE, Int32.reduceAdd, Int32.reduceSub, z_set, z_set2, z_kil, List.set_cons_zero, List.set_cons_succ, List.take_succ_cons, List.take_zero, List.drop_succ_cons, List.drop_zero, List.reverse_cons, List.reverse_nil, List.nil_append, List.cons_append, List.getD_cons_succ, List.getD_cons_zero, List.getD_nil, List.length_cons, List.length_nil, List.map_cons, List.map_nil, List.sum_cons, List.sum_nil, Nat.reduceAdd, Nat.reduceLeDiff, Value.category, Option.toList, true_or, or_true, z_ua, ↓reduceIte, Nat.reduceEqDiff, eq_self, not_true_eq_false, not_false_eq_true, false_implies, true_implies, Classical.not_not, Nat.le_refl, Nat.zero_le]
      try dsimp only
      refine c224_in (I := z_u I' 94 i 0) hS hj (by omega) (by rw [z_u_ne (by decide), g71]; exact hF) hF16 (fun I2 h2 h3 h4 x => ?_) F 0 _ (by omega) (fun _ _ => rfl) (fun _ _ => rfl) (by simp [z_u, m_hold])
      refine go I2 x (fun q hq => by rw [h2 q hq, z_u_ne hq]; exact ho q hq) (fun g hg' => by rw [h3 g (by omega), z_u_at, if_neg (by omega)]) ?_
      rw [h4, m_ho, if_neg h1, z_u_ne (by decide), g86]
    · exact go _ _ (fun q hq => by rw [z_u_ne hq]; exact ho q hq) (fun g hg' => by rw [z_u_at, if_neg (by omega)]) (by rw [z_u_at, if_pos rfl, m_ho, if_pos h1])
/-- findHolders -/
theorem c224 (hS : SS K L G) (set asked : Int32) (hF : I 71 1 = nI F) (hF16 : F ≤ 16) (hN : I 71 17 = nI N) (hN12 : N ≤ 12) : z_Ctr l 0 224 [.ref 71, .int set, .int asked] (n, K, L, I, J, G) 0 0 (fun r h' => r = none ∧ ∃ I', h' = (n, K, L, I', J, G) ∧ (∀ q, q ≠ 94 → I' q = I q) ∧ ∀ i, i < N → I' 94 i = m_ho (I 86) set asked F i) := by
  refine z_ctr (by decide) (by decide +kernel) (Nat.le_of_ble_eq_true rfl) (by decide +kernel) (fun X hl hj hd hm hs hsc hQ => ?_)
  show zV X 0 [some (.ref 71), some (.int set), some (.int asked), none, none] [] _ 0 0
  refine zW_ok hj B224_0 0 _ _ _ _ _ b224_0 ?_
  simp only [B224_0, zW, z_wp1, z_ld, z_f0, z_f1, z_f2, z_f3, List.getElem?_cons_zero, List.getElem?_cons_succ, true_and, and_true, Int32.reduceOfInt, z_i10, z_i01, Int32.reduceLT, Int32.reduceLE, Int32.reduceAdd, Int32.reduceSub, z_set, z_set2, z_kil, List.set_cons_zero, List.set_cons_succ, List.take_succ_cons, List.take_zero, List.drop_succ_cons, List.drop_zero, List.reverse_cons, List.reverse_nil, List.nil_append, List.cons_append, List.getD_cons_succ, List.getD_cons_zero, List.getD_nil, List.length_cons, List.length_nil, List.map_cons, List.map_nil, List.sum_cons, List.sum_nil, Nat.reduceAdd, Nat.reduceLeDiff, Value.category, Option.toList, true_or, or_true, z_ua, ↓reduceIte, Nat.reduceEqDiff, eq_self, not_true_eq_false, not_false_eq_true, false_implies, true_implies, Classical.not_not, Nat.le_refl, Nat.zero_le]
  try dsimp only
  exact c224_out hS hj hF hF16 hN hN12 hQ N 0 I (by omega) (fun _ _ => rfl) (fun g h => absurd h (by omega))
end M15
