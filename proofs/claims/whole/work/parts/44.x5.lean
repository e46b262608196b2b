/-! The class: what a mark says, the table's rows cut -/
noncomputable def x_ev (kn : Int32 → Int32) : List (Int32 × Int32) → List Int32 → Int32 → Option (List Int32 × Int32)
  | [], st, ms => some (st, ms)
  | c :: cs, st, ms => match x_step kn c.1 c.2 st ms with
    | some r => x_ev kn cs r.1 r.2
    | none => none
theorem x_ev_c {kn : Int32 → Int32} {c : Int32 × Int32} {cs : List (Int32 × Int32)} {st st' : List Int32} {ms ms' : Int32} (h : x_step kn c.1 c.2 st ms = some (st', ms')) : x_ev kn (c :: cs) st ms = x_ev kn cs st' ms' := by simp only [x_ev, h]
theorem x_ev_n {kn : Int32 → Int32} {c : Int32 × Int32} {cs : List (Int32 × Int32)} {st : List Int32} {ms : Int32} (h : x_step kn c.1 c.2 st ms = none) : x_ev kn (c :: cs) st ms = none := by simp only [x_ev, h]
def x_code (I : Nat → Nat → Int32) (cd i : Nat) (cs : List (Int32 × Int32)) : Prop := ∃ a : Nat, (if i = 0 then (0 : Int32) else I (cd + 2) (i - 1)) = nI a ∧ I (cd + 2) i = nI (a + cs.length) ∧ a + cs.length ≤ 800 ∧ ∀ t x, cs[t]? = some x → I (cd + 1) (a + t) &&& 31 = x.1 ∧ I (cd + 1) (a + t) >>> ((5 : Int32) &&& 31) = x.2
def x_scale (I : Nat → Nat → Int32) (cd N : Nat) (tr : Nat → (Int32 → Int32) → Int32) : Prop := I cd 3 = nI N ∧ N ≤ 12 ∧ ∀ i, i < N → ∃ cs, x_code I cd i cs ∧ ∀ kn, ∃ b, x_ev kn cs [] 0 = some ([tr i kn], b)
theorem x_scale.congr {I I' : Nat → Nat → Int32} {cd N : Nat} {tr : Nat → (Int32 → Int32) → Int32} (h : x_scale I cd N tr) (h1 : I' cd 3 = I cd 3) (h2 : I' (cd + 1) = I (cd + 1)) (h3 : I' (cd + 2) = I (cd + 2)) : x_scale I' cd N tr := by
  unfold x_scale x_code at *
  rw [h1, h2, h3]
  exact h
theorem x_step_congr {kn kn' : Int32 → Int32} (h : ∀ a : Int32, 0 ≤ a ∧ a < 6 → kn a = kn' a) (k a : Int32) (st : List Int32) (ms : Int32) : x_step kn k a st ms = x_step kn' k a st ms := by
  unfold x_step
  by_cases ha : 0 ≤ a ∧ a < 6
  · rw [h a ha]
  · have e : ¬ (st.length < 40 ∧ 0 ≤ a ∧ a < 6) := fun q => ha q.2
    simp only [if_neg e]
theorem x_ev_congr {kn kn' : Int32 → Int32} (h : ∀ a : Int32, 0 ≤ a ∧ a < 6 → kn a = kn' a) : ∀ (cs : List (Int32 × Int32)) (st : List Int32) (ms : Int32), x_ev kn cs st ms = x_ev kn' cs st ms
  | [], _, _ => rfl
  | c :: cs, st, ms => by
    simp only [x_ev, x_step_congr h]
    cases x_step kn' c.1 c.2 st ms with
    | none => rfl
    | some r => exact x_ev_congr h cs r.1 r.2
theorem x_tr_congr {I : Nat → Nat → Int32} {cd N i : Nat} {tr : Nat → (Int32 → Int32) → Int32} (h : x_scale I cd N tr) (hi : i < N) {kn kn' : Int32 → Int32} (hk : ∀ a : Int32, 0 ≤ a ∧ a < 6 → kn a = kn' a) : tr i kn = tr i kn' := by
  obtain ⟨cs, _, h2⟩ := h.2.2 i hi
  obtain ⟨b, hb⟩ := h2 kn
  obtain ⟨b', hb'⟩ := h2 kn'
  rw [x_ev_congr hk, hb'] at hb
  simp at hb
  exact hb.1.symm
section X5
variable {l : Launch} {n : Nat} {K L : Nat → Nat} {I : Nat → Nat → Int32} {J : Nat → Nat → Int64} {G : Nat → Nat → Value} {cd ca cb cc p : Nat}
theorem c52 (hq : XQ K L G cd ca cb cc) (hp : K p = 13 ∧ L p = 6 ∧ p ≠ cd ∧ p ≠ cc) {st st' : List Int32} {ms ms' k a : Int32} (hs0 : x_S I cd cc st ms) (h : x_step (fun a => I p a.toNatClampNeg) k a st ms = some (st', ms')) : z_Ctr l 2 52 [.ref cd, .int k, .int a, .ref p] (n, K, L, I, J, G) 0 0 (x_Rk n K L I J G cd cc st' ms') := by
  unfold x_step at h
  by_cases h1 : k = 17
  · subst h1
    rw [if_pos rfl] at h
    by_cases hl : st.length < 40
    · rw [if_pos hl] at h
      cases h
      exact c52_17 hq hs0 hl
    · rw [if_neg hl] at h
      cases h
  rw [if_neg h1] at h
  by_cases h2 : k = 16
  · subst h2
    rw [if_pos rfl] at h
    by_cases hl : st.length < 40 ∧ 0 ≤ a ∧ a < 6
    · rw [if_pos hl] at h
      cases h
      exact c52_16 hq hp hs0 hl.1 (x_in6 hl.2)
    · rw [if_neg hl] at h
      cases h
  rw [if_neg h2] at h
  by_cases h3 : k = 15
  · subst h3
    rw [if_pos rfl] at h
    by_cases hl : st.length < 40 ∧ 0 ≤ a ∧ a < 6
    · rw [if_pos hl] at h
      cases h
      exact c52_15 hq hp hs0 hl.1 (x_in6 hl.2)
    · rw [if_neg hl] at h
      cases h
  rw [if_neg h3] at h
  by_cases h4 : k = 14
  · subst h4
    rw [if_pos rfl] at h
    cases st with
    | nil => cases h
    | cons x r =>
      cases h
      exact c52_14 hq hs0
  rw [if_neg h4] at h
  by_cases h5 : k = 6
  · subst h5
    rw [if_pos rfl] at h
    cases st with
    | nil => cases h
    | cons x r =>
      by_cases ha : a = 0
      · simp only [if_pos ha] at h
        cases h
      · simp only [if_neg ha] at h
        cases h
        exact c52_6 hq ha hs0
  rw [if_neg h5] at h
  match st, h, hs0 with
  | [], h, _ => cases h
  | [_], h, _ => cases h
  | y :: x :: r, h, hs0 =>
    by_cases hk : x_op k
    · simp only [if_pos hk] at h
      cases h
      exact c52_d hq hk hs0
    · simp only [if_neg hk] at h
      cases h
theorem c51_loop {X : zX} (hq : XQ K L G cd ca cb cc) (hp : K p = 13 ∧ L p = 6 ∧ p ≠ cd ∧ p ≠ cc) (hj : X.2.1 = 51) (hd : X.2.2.1 = 3) (hm : X.2.2.2.1 = 0) (hs : X.2.2.2.2.1 = 0) {i E : Nat} (hi : i < 12) (hE : I cb i = nI E) (hE8 : E ≤ 800) {fr v : Int32} (hQ : ∀ r h', (r = some (.int v) ∧ ∃ I', h' = (n, K, L, I', J, G) ∧ x_off I I' cd cc) → X.2.2.2.2.2.2 r h') : ∀ (cs : List (Int32 × Int32)) (a : Nat) (I' : Nat → Nat → Int32) (st : List Int32) (ms b : Int32), a + cs.length = E → (∀ t x, cs[t]? = some x → I ca (a + t) &&& 31 = x.1 ∧ I ca (a + t) >>> ((5 : Int32) &&& 31) = x.2) → x_off I I' cd cc → x_S I' cd cc st ms → x_ev (fun a => I p a.toNatClampNeg) cs st ms = some ([v], b) → zV X 30 [some (.ref cd), some (.int (nI i)), some (.ref p), some (.int fr), some (.int (nI a))] [] (n, K, L, I', J, G) 0 0
  | [], a, I', st, ms, b, hl, hcs, ho, hst, hev => by
    obtain ⟨q1, q2, q3, q4, q5, q6, q7, q8, q9, q10, e1, e2, e3, e4, e5, e6, e7, e8, e9, e10, e11, e12⟩ := id hq
    have h1 : (nI i).toNatClampNeg = i := nI_clamp (by omega)
    have v1 : vp_in (nI i) 12 := vp_in_nI (by omega) (by omega)
    have hE' : I' cb i = nI E := by rw [ho.1 cb e4 e11]; exact hE
    simp only [List.length_nil, Nat.add_zero] at hl
    subst hl
    cases hev
    obtain ⟨p1, p2, p3, p4⟩ := x_S_pop e5 hst
    refine zW_ok hj B51_30 30 _ _ _ _ _ b51_30 ?_
    simp only [B51_30, zW, z_wp1, z_ld, z_f0, z_f1, z_f2, z_f3, List.getElem?_cons_zero, List.getElem?_cons_succ, true_and, and_true, Int32.reduceOfInt, z_i10, z_i01, Int32.reduceLT, Int32.reduceLE, Int32.reduceAdd, Int32.reduceSub, z_set, z_set2, z_kil, List.set_cons_zero, List.set_cons_succ, List.take_succ_cons, List.take_zero, List.drop_succ_cons, List.drop_zero, List.reverse_cons, List.reverse_nil, List.nil_append, List.cons_append, List.getD_cons_succ, List.getD_cons_zero, List.getD_nil, List.length_cons, List.length_nil, List.map_cons, List.map_nil, List.sum_cons, List.sum_nil, Nat.reduceAdd, Nat.reduceLeDiff, Value.category, Option.toList, true_or, or_true, z_ua, ↓reduceIte, Nat.reduceEqDiff, eq_self, not_true_eq_false, not_false_eq_true, false_implies, true_implies, Classical.not_not, Nat.le_refl, Nat.zero_le, q1, q5, q6, q7, h1, v1, hE']
    try dsimp only
    refine ⟨fun _ => ?_, fun hc => absurd (nI_le (Nat.le_refl _) (by omega)) hc⟩
    refine zW_ok hj B51_71 71 _ _ _ _ _ b51_71 ?_
    simp only [B51_71, zW, z_wp1, z_ld, z_f0, z_f1, z_f2, z_f3, List.getElem?_cons_zero, List.getElem?_cons_succ, true_and, and_true, Int32.reduceOfInt, z_i10, z_i01, Int32.reduceLT, Int32.reduceLE, Int32.reduceAdd, Int32.reduceSub, z_set, z_set2, z_kil, List.set_cons_zero, List.set_cons_succ, List.take_succ_cons, List.take_zero, List.drop_succ_cons, List.drop_zero, List.reverse_cons, List.reverse_nil, List.nil_append, List.cons_append, List.getD_cons_succ, List.getD_cons_zero, List.getD_nil, List.length_cons, List.length_nil, List.map_cons, List.map_nil, List.sum_cons, List.sum_nil, Nat.reduceAdd, Nat.reduceLeDiff, Value.category, Option.toList, true_or, or_true, z_ua, ↓reduceIte, Nat.reduceEqDiff, eq_self, not_true_eq_false, not_false_eq_true, false_implies, true_implies, Classical.not_not, Nat.le_refl, Nat.zero_le, q1]
    try dsimp only
    refine z_callD (c57 hq p3 p2) (by omega) (by omega) (by omega) (Nat.le_of_ble_eq_true rfl) ?_
    try simp only [zW, z_wp1, z_ld, z_f0, z_f1, z_f2, z_f3, List.getElem?_cons_zero, List.getElem?_cons_succ, true_and, and_true, Int32.reduceOfInt, z_i10, z_i01, Int32.reduceLT, Int32.reduceLE, Int32.reduceAdd, Int32.reduceSub, z_set, z_set2, z_kil, List.set_cons_zero, List.set_cons_succ, List.take_succ_cons, List.take_zero, List.drop_succ_cons, List.drop_zero, List.reverse_cons, List.reverse_nil, List.nil_append, List.cons_append, List.getD_cons_succ, List.getD_cons_zero, List.getD_nil, List.length_cons, List.length_nil, List.map_cons, List.map_nil, List.sum_cons, List.sum_nil, Nat.reduceAdd, Nat.reduceLeDiff, Value.category, Option.toList, true_or, or_true, z_ua, ↓reduceIte, Nat.reduceEqDiff, eq_self, not_true_eq_false, not_false_eq_true, false_implies, true_implies, Classical.not_not, Nat.le_refl, Nat.zero_le]
    try dsimp only
    simp only [List.length_nil] at p1
    refine hQ _ _ ⟨by rw [← p1], _, rfl, ho.tr (x_off.d _ _ (Or.inl rfl))⟩
  | c :: cs, a, I', st, ms, b, hl, hcs, ho, hst, hev => by
    obtain ⟨q1, q2, q3, q4, q5, q6, q7, q8, q9, q10, e1, e2, e3, e4, e5, e6, e7, e8, e9, e10, e11, e12⟩ := id hq
    simp only [List.length_cons] at hl
    have h1 : (nI i).toNatClampNeg = i := nI_clamp (by omega)
    have v1 : vp_in (nI i) 12 := vp_in_nI (by omega) (by omega)
    have h2 : (nI a).toNatClampNeg = a := nI_clamp (by omega)
    have v2 : vp_in (nI a) 800 := vp_in_nI (by omega) (by omega)
    have hE' : I' cb i = nI E := by rw [ho.1 cb e4 e11]; exact hE
    have hp' : I' p = I p := ho.1 p hp.2.2.1 hp.2.2.2
    have hca : I' ca = I ca := ho.1 ca e2 e9
    obtain ⟨g1, g2⟩ := hcs 0 c rfl
    rw [Nat.add_zero] at g1 g2
    cases hstep : x_step (fun a => I p a.toNatClampNeg) c.1 c.2 st ms with
    | none => rw [x_ev_n hstep] at hev; cases hev
    | some r =>
      obtain ⟨st', ms'⟩ := r
      rw [x_ev_c hstep] at hev
      refine zW_ok hj B51_30 30 _ _ _ _ _ b51_30 ?_
      simp only [B51_30, zW, z_wp1, z_ld, z_f0, z_f1, z_f2, z_f3, List.getElem?_cons_zero, List.getElem?_cons_succ, true_and, and_true, Int32.reduceOfInt, z_i10, z_i01, Int32.reduceLT, Int32.reduceLE, Int32.reduceAdd, Int32.reduceSub, z_set, z_set2, z_kil, List.set_cons_zero, List.set_cons_succ, List.take_succ_cons, List.take_zero, List.drop_succ_cons, List.drop_zero, List.reverse_cons, List.reverse_nil, List.nil_append, List.cons_append, List.getD_cons_succ, List.getD_cons_zero, List.getD_nil, List.length_cons, List.length_nil, List.map_cons, List.map_nil, List.sum_cons, List.sum_nil, Nat.reduceAdd, Nat.reduceLeDiff, Value.category, Option.toList, true_or, or_true, z_ua, ↓reduceIte, Nat.reduceEqDiff, eq_self, not_true_eq_false, not_false_eq_true, false_implies, true_implies, Classical.not_not, Nat.le_refl, Nat.zero_le, q1, q2, q3, q4, q5, q6, q7, h1, v1, hE', h2, v2, hca, g1, g2]
      try dsimp only
      refine ⟨fun hc => absurd hc (nI_ge (by omega) (by omega)), fun _ => ?_⟩
      refine z_callQ (c52 (I := I') hq hp hst (by rw [hp']; exact hstep)) (by omega) (by omega) (by omega) (Nat.le_of_ble_eq_true rfl) ?_
      rintro r h' ⟨rfl, I2, rfl, ho2, hst2⟩
      simp only [zW, z_wp1, z_ld, z_f0, z_f1, z_f2, z_f3, List.getElem?_cons_zero, List.getElem?_cons_succ, true_and, and_true, Int32.reduceOfInt, z_i10, z_i01, Int32.reduceLT, Int32.reduceLE, Int32.reduceAdd, Int32.reduceSub, z_set, z_set2, z_kil, List.set_cons_zero, List.set_cons_succ, List.take_succ_cons, List.take_zero, List.drop_succ_cons, List.drop_zero, List.reverse_cons, List.reverse_nil, List.nil_append, List.cons_append, List.getD_cons_succ, List.getD_cons_zero, List.getD_nil, List.length_cons, List.length_nil, List.map_cons, List.map_nil, List.sum_cons, List.sum_nil, Nat.reduceAdd, Nat.reduceLeDiff, Value.category, Option.toList, true_or, or_true, z_ua, ↓reduceIte, Nat.reduceEqDiff, eq_self, not_true_eq_false, not_false_eq_true, false_implies, true_implies, Classical.not_not, Nat.le_refl, Nat.zero_le, nI_1]
      try dsimp only
      exact c51_loop hq hp hj hd hm hs hi hE hE8 hQ cs (a + 1) I2 st' ms' b (by omega) (fun t x hx => by
        have := hcs (t + 1) x (by simpa using hx)
        rw [show a + 1 + t = a + (t + 1) by omega]
        exact this) (ho.tr ho2) hst2 hev
theorem c51 (hS : SS K L G) (h2 : cd = 12 ∨ cd = 65) (hp : p = 19 ∨ p = 20) {N i : Nat} {tr : Nat → (Int32 → Int32) → Int32} (hsc0 : x_scale I cd N tr) (hi : i < N) : z_Ctr l 3 51 [.ref cd, .int (nI i), .ref p] (n, K, L, I, J, G) 0 0 (fun r h' => r = some (.int (tr i (fun a => I p a.toNatClampNeg))) ∧ ∃ I', h' = (n, K, L, I', J, G) ∧ x_off I I' cd (cd + 3)) := by
  have hq := XQ_of hS h2
  have hp6 : K p = 13 ∧ L p = 6 ∧ p ≠ cd ∧ p ≠ cd + 3 := by
    rcases hp with rfl | rfl
    · exact ⟨sK19 hS, sL19 hS, by omega, by omega⟩
    · exact ⟨sK20 hS, sL20 hS, by omega, by omega⟩
  obtain ⟨c1, c2, c3⟩ := hsc0
  obtain ⟨cs, ⟨a, a1, a2, a3, a4⟩, hev⟩ := c3 i hi
  obtain ⟨b, hev⟩ := hev (fun a => I p a.toNatClampNeg)
  obtain ⟨q1, q2, q3, q4, q5, q6, q7, q8, q9, q10, e1, e2, e3, e4, e5, e6, e7, e8, e9, e10, e11, e12⟩ := id hq
  refine z_ctr (by decide) (by decide +kernel) (Nat.le_of_ble_eq_true rfl) (by decide +kernel) (fun X hl hj hd hm hs hsc hQ => ?_)
  show zV X 0 [some (.ref cd), some (.int (nI i)), some (.ref p), none, none] [] _ 0 0
  have go : ∀ x : Int32, x = nI a → zV X 26 [some (.ref cd), some (.int (nI i)), some (.ref p), none, none] [.int x] (n, K, L, z_u (z_u I cd 5 0) cd 6 0, J, G) 0 0 := by
    intro x hx
    subst hx
    refine zW_ok hj B51_26 26 _ _ _ _ _ b51_26 ?_
    simp only [B51_26, zW, z_wp1, z_ld, z_f0, z_f1, z_f2, z_f3, List.getElem?_cons_zero, List.getElem?_cons_succ, true_and, and_true, Int32.reduceOfInt, z_i10, z_i01, Int32.reduceLT, Int32.reduceLE, Int32.reduceAdd, Int32.reduceSub, z_set, z_set2, z_kil, List.set_cons_zero, List.set_cons_succ, List.take_succ_cons, List.take_zero, List.drop_succ_cons, List.drop_zero, List.reverse_cons, List.reverse_nil, List.nil_append, List.cons_append, List.getD_cons_succ, List.getD_cons_zero, List.getD_nil, List.length_cons, List.length_nil, List.map_cons, List.map_nil, List.sum_cons, List.sum_nil, Nat.reduceAdd, Nat.reduceLeDiff, Value.category, Option.toList, true_or, or_true, z_ua, ↓reduceIte, Nat.reduceEqDiff, eq_self, not_true_eq_false, not_false_eq_true, false_implies, true_implies, Classical.not_not, Nat.le_refl, Nat.zero_le]
    try dsimp only
    refine c51_loop (I := I) hq hp6 hj hd hm hs (by omega) a2 a3 hQ cs a _ [] 0 b rfl a4 ((x_off.d _ _ (Or.inl rfl)).tr (x_off.d _ _ (Or.inr rfl))) ⟨by simp, by simp [z_u]; rfl, by simp [z_u], fun t x h => by simp at h⟩ hev
  refine zW_ok hj B51_0 0 _ _ _ _ _ b51_0 ?_
  simp only [B51_0, zW, z_wp1, z_ld, z_f0, z_f1, z_f2, z_f3, List.getElem?_cons_zero, List.getElem?_cons_succ, true_and, and_true, Int32.reduceOfInt, z_i10, z_i01, Int32.reduceLT, Int32.reduceLE, Int32.reduceAdd, Int32.reduceSub, z_set, z_set2, z_kil, List.set_cons_zero, List.set_cons_succ, List.take_succ_cons, List.take_zero, List.drop_succ_cons, List.drop_zero, List.reverse_cons, List.reverse_nil, List.nil_append, List.cons_append, List.getD_cons_succ, List.getD_cons_zero, List.getD_nil, List.length_cons, List.length_nil, List.map_cons, List.map_nil, List.sum_cons, List.sum_nil, Nat.reduceAdd, Nat.reduceLeDiff, Value.category, Option.toList, true_or, or_true, z_ua, ↓reduceIte, Nat.reduceEqDiff, eq_self, not_true_eq_false, not_false_eq_true, false_implies, true_implies, Classical.not_not, Nat.le_refl, Nat.zero_le, q1]
  try dsimp only
  by_cases h0 : i = 0
  · subst h0
    rw [if_pos rfl] at a1
    refine ⟨fun hc => absurd nI_0 hc, fun _ => go _ a1⟩
  · rw [if_neg h0] at a1
    have h1 : (nI (i - 1)).toNatClampNeg = i - 1 := nI_clamp (by omega)
    have v1 : vp_in (nI (i - 1)) 12 := vp_in_nI (by omega) (by omega)
    have h3 : nI i - 1 = nI (i - 1) := by
      obtain ⟨b, rfl⟩ : ∃ b, i = b + 1 := ⟨i - 1, by omega⟩
      exact nI_pred b
    refine ⟨fun _ => ?_, fun hc => absurd hc (nI_ne0 (by omega) (by omega))⟩
    refine zW_ok hj B51_18 18 _ _ _ _ _ b51_18 ?_
    simp only [B51_18, zW, z_wp1, z_ld, z_f0, z_f1, z_f2, z_f3, List.getElem?_cons_zero, List.getElem?_cons_succ, true_and, and_true, Int32.reduceOfInt, z_i10, z_i01, Int32.reduceLT, Int32.reduceLE, Int32.reduceAdd, Int32.reduceSub, z_set, z_set2, z_kil, List.set_cons_zero, List.set_cons_succ, List.take_succ_cons, List.take_zero, List.drop_succ_cons, List.drop_zero, List.reverse_cons, List.reverse_nil, List.nil_append, List.cons_append, List.getD_cons_succ, List.getD_cons_zero, List.getD_nil, List.length_cons, List.length_nil, List.map_cons, List.map_nil, List.sum_cons, List.sum_nil, Nat.reduceAdd, Nat.reduceLeDiff, Value.category, Option.toList, true_or, or_true, z_ua, ↓reduceIte, Nat.reduceEqDiff, eq_self, not_true_eq_false, not_false_eq_true, false_implies, true_implies, Classical.not_not, Nat.le_refl, Nat.zero_le, q1, q5, q6, q7, h1, v1, h3, e4]
    try dsimp only
    exact go _ a1
end X5
