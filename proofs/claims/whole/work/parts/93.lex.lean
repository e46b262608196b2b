/-! Texts cut into words, numbers and signs: what they are, and the model's wordAt -/
def p_L (c : Int32) : Bool := decide ((97 ≤ c ∧ c ≤ 122) ∨ (65 ≤ c ∧ c ≤ 90))
def p_D (c : Int32) : Bool := decide (48 ≤ c ∧ c ≤ 57)
def p_W (c : Int32) : Bool := decide (c = 32 ∨ c = 10)
/-- the end of a run -/
def p_en (P : Int32 → Bool) (t : Nat → Int32) (N : Nat) : Nat → Nat → Nat
  | 0, a => a
  | k + 1, a => if a < N ∧ P (t a) = true then p_en P t N k (a + 1) else a
def p_ed (P : Int32 → Bool) (t : Nat → Int32) (N a : Nat) : Nat := p_en P t N (N - a) a
theorem p_ed_s {P : Int32 → Bool} {t : Nat → Int32} {N a : Nat} (h : a < N) (hp : P (t a) = true) : p_ed P t N a = p_ed P t N (a + 1) := by
  unfold p_ed
  rw [show N - a = (N - (a + 1)) + 1 by omega, p_en, if_pos ⟨h, hp⟩]
theorem p_ed_n {P : Int32 → Bool} {t : Nat → Int32} {N a : Nat} (h : ¬ (a < N ∧ P (t a) = true)) : p_ed P t N a = a := by
  unfold p_ed
  cases N - a with
  | zero => rfl
  | succ k => rw [p_en, if_neg h]
theorem p_en_in {P : Int32 → Bool} {t : Nat → Int32} {N : Nat} : ∀ (k a : Nat), a ≤ p_en P t N k a ∧ (a ≤ N → p_en P t N k a ≤ N) ∧ ∀ j, a ≤ j → j < p_en P t N k a → j < N ∧ P (t j) = true
  | 0, a => ⟨Nat.le_refl _, fun h => h, fun j h1 h2 => by rw [p_en] at h2; omega⟩
  | k + 1, a => by
    rw [p_en]
    by_cases h : a < N ∧ P (t a) = true
    · rw [if_pos h]
      obtain ⟨h1, h2, h3⟩ := p_en_in (P := P) (t := t) (N := N) k (a + 1)
      refine ⟨by omega, fun _ => h2 (by omega), fun j j1 j2 => ?_⟩
      by_cases e : j = a
      · rw [e]; exact h
      · exact h3 j (by omega) j2
    · rw [if_neg h]
      exact ⟨Nat.le_refl _, fun h => h, fun j h1 h2 => by omega⟩
theorem p_ed_in {P : Int32 → Bool} {t : Nat → Int32} {N a : Nat} : a ≤ p_ed P t N a ∧ (a ≤ N → p_ed P t N a ≤ N) ∧ ∀ j, a ≤ j → j < p_ed P t N a → j < N ∧ P (t j) = true := p_en_in _ _
theorem p_en_st {P : Int32 → Bool} {t : Nat → Int32} {N : Nat} : ∀ (k a : Nat), N - a ≤ k → ¬ (p_en P t N k a < N ∧ P (t (p_en P t N k a)) = true)
  | 0, a, h => by rw [p_en]; omega
  | k + 1, a, h => by
    rw [p_en]
    by_cases q : a < N ∧ P (t a) = true
    · rw [if_pos q]; exact p_en_st k (a + 1) (by omega)
    · rw [if_neg q]; exact q
theorem p_ed_st {P : Int32 → Bool} {t : Nat → Int32} {N a : Nat} : ¬ (p_ed P t N a < N ∧ P (t (p_ed P t N a)) = true) := p_en_st _ _ (Nat.le_refl _)
/-- a word spelled -/
def p_sl (t : Nat → Int32) : Nat → List Int32 → Bool
  | _, [] => true
  | a, c :: r => decide (t a = c) && p_sl t (a + 1) r
def p_sp (t : Nat → Int32) (a b : Nat) (w : List Int32) : Bool := decide (b = a + w.length) && p_sl t a w
def p_wl (t : Nat → Int32) (a b : Nat) : List (List Int32) → Nat → Int32
  | [], _ => -1
  | w :: r, k => if p_sp t a b w = true then nI k else p_wl t a b r (k + 1)
def p_ws : List (List Int32) := [[97], [98], [99], [100], [101], [102], [111, 114], [97, 110, 100], [110, 111, 116], [107, 110, 111, 119, 110]]
/-- the number of a word -/
def p_w (t : Nat → Int32) (a b : Nat) : Int32 := p_wl t a b p_ws 0
/-- the words in a row, each behind a space -/
def p_lay (W : Nat → Int32) : Nat → List (List Int32) → Prop
  | k, [] => k = 29 ∧ W k = 32
  | k, w :: r => W k = 32 ∧ k + 1 + w.length ≤ 29 ∧ (∀ i c, w[i]? = some c → W (k + 1 + i) = c ∧ ¬ c = 32) ∧ p_lay W (k + 1 + w.length) r
theorem p_lay_0 {W : Nat → Int32} {k : Nat} : ∀ {L : List (List Int32)}, p_lay W k L → W k = 32
  | [], h => h.2
  | _ :: _, h => h.1
theorem p_sl_iff {t : Nat → Int32} : ∀ {w : List Int32} {a : Nat}, p_sl t a w = true ↔ ∀ i c, w[i]? = some c → t (a + i) = c
  | [], a => by simp [p_sl]
  | c :: r, a => by
    rw [p_sl, Bool.and_eq_true, p_sl_iff (w := r) (a := a + 1), decide_eq_true_eq]
    constructor
    · rintro ⟨h1, h2⟩ i d hi
      cases i with
      | zero => simp at hi; rw [← hi]; exact h1
      | succ i =>
        have := h2 i d (by simpa using hi)
        rw [show a + (i + 1) = a + 1 + i by omega]
        exact this
    · intro h
      refine ⟨h 0 c (by simp), fun i d hi => ?_⟩
      have := h (i + 1) d (by simpa using hi)
      rw [show a + 1 + i = a + (i + 1) by omega]
      exact this
section LEX
variable {l : Launch} {n : Nat} {K L : Nat → Nat} {I : Nat → Nat → Int32} {J : Nat → Nat → Int64} {G : Nat → Nat → Value} {a b : Nat}
theorem c176_w {X : zX} (hS : SS K L G) (hj : X.2.1 = 176) (hab : a < b) (hb8 : b ≤ 800) (hnl : ∀ j, a ≤ j → j < b → ¬ I 77 j = 32) {k : Nat} {w : List Int32} (h32 : I 78 (k + 1 + w.length) = 32) (hk29 : k + 1 + w.length ≤ 29) (hw : ∀ i c, w[i]? = some c → I 78 (k + 1 + i) = c ∧ ¬ c = 32) {v : Int32} (ky : p_sp (I 77) a b w = true → X.2.2.2.2.2.2 (some (.int v)) (n, K, L, I, J, G)) (kn : ¬ p_sp (I 77) a b w = true → ∀ x5, zV X 87 [some (.ref 71), some (.int (nI a)), some (.int (nI b)), some (.int v), some (.int (nI k)), x5] [] (n, K, L, I, J, G) 0 0) : ∀ (f i : Nat), i + f = w.length → a + i ≤ b → (∀ j c, j < i → w[j]? = some c → I 77 (a + j) = c) → zV X 19 [some (.ref 71), some (.int (nI a)), some (.int (nI b)), some (.int v), some (.int (nI k)), some (.int (nI i))] [] (n, K, L, I, J, G) 0 0 := by
  -- the look behind the last letter that fits
  have lk : ∀ i, i ≤ w.length → a + i ≤ b → (p_sp (I 77) a b w = true ↔ (a + i = b ∧ i = w.length)) → zV X 60 [some (.ref 71), some (.int (nI a)), some (.int (nI b)), some (.int v), some (.int (nI k)), some (.int (nI i))] [] (n, K, L, I, J, G) 0 0 := by
    intro i hi hai hiff
    have e1 : (nI (k + 1 + i)).toNatClampNeg = k + 1 + i := nI_clamp (by omega)
    have v1 : vp_in (nI (k + 1 + i)) 30 := vp_in_nI (by omega) (by omega)
    have eqi : nI (a + i) = nI b ↔ a + i = b := nI_eq (by omega) (by omega)
    refine zW_ok hj B176_60 60 _ _ _ _ _ b176_60 ?_
    simp only [B176_60, zW, z_wp1, z_ld, z_f0, z_f1, z_f2, z_f3, List.getElem?_cons_zero, List.getElem?_cons_succ, true_and, and_true, Int32.reduceOfInt, z_i10, z_i01, Int32.reduceLT, Int32.reduceLE, Int32.reduceAdd, Int32.reduceSub, z_set, z_set2, z_kil, List.set_cons_zero, List.set_cons_succ, List.take_succ_cons, List.take_zero, List.drop_succ_cons, List.drop_zero, List.reverse_cons, List.reverse_nil, List.nil_append, List.cons_append, List.getD_cons_succ, List.getD_cons_zero, List.getD_nil, List.length_cons, List.length_nil, List.map_cons, List.map_nil, List.sum_cons, List.sum_nil, Nat.reduceAdd, Nat.reduceLeDiff, Value.category, Option.toList, true_or, or_true, z_ua, ↓reduceIte, Nat.reduceEqDiff, eq_self, not_true_eq_false, not_false_eq_true, false_implies, true_implies, Classical.not_not, Nat.le_refl, Nat.zero_le, nI_add, nI_1, eqi, sK71 hS, sG71_16 hS, sK78 hS, sL78 hS, e1, v1]
    try dsimp only
    refine ⟨fun h => kn (fun q => h (hiff.mp q).1) _, fun h1 => ⟨fun h => kn (fun q => h ?_) _, fun h => ky (hiff.mpr ⟨h1, ?_⟩)⟩⟩
    · rw [(hiff.mp q).2]; exact h32
    · rcases Nat.lt_or_ge i w.length with z | z
      · exact absurd h ((hw i _ (List.getElem?_eq_getElem z)).1 ▸ (hw i _ (List.getElem?_eq_getElem z)).2)
      · omega
  have len : p_sp (I 77) a b w = true → b = a + w.length := fun q => by
    unfold p_sp at q
    rw [Bool.and_eq_true, decide_eq_true_eq] at q
    exact q.1
  intro f
  induction f with
  | zero =>
    intro i hi hai hm
    have ei : i = w.length := by omega
    have iff : p_sp (I 77) a b w = true ↔ (a + i = b ∧ i = w.length) := by
      refine ⟨fun q => ⟨by rw [ei]; exact (len q).symm, ei⟩, fun q => ?_⟩
      unfold p_sp
      rw [Bool.and_eq_true, decide_eq_true_eq]
      refine ⟨by omega, p_sl_iff.mpr (fun j c hj => hm j c ?_ hj)⟩
      have := (List.getElem?_eq_some_iff.mp hj).1
      omega
    by_cases hb : a + i = b
    · have le : nI b ≤ nI (a + i) := nI_le (by omega) (by omega)
      refine zW_ok hj B176_19 19 _ _ _ _ _ b176_19 ?_
      simp only [B176_19, zW, z_wp1, z_ld, z_f0, z_f1, z_f2, z_f3, List.getElem?_cons_zero, List.getElem?_cons_succ, true_and, and_true, Int32.reduceOfInt, z_i10, z_i01, Int32.reduceLT, Int32.reduceLE, Int32.reduceAdd, Int32.reduceSub, z_set, z_set2, z_kil, List.set_cons_zero, List.set_cons_succ, List.take_succ_cons, List.take_zero, List.drop_succ_cons, List.drop_zero, List.reverse_cons, List.reverse_nil, List.nil_append, List.cons_append, List.getD_cons_succ, List.getD_cons_zero, List.getD_nil, List.length_cons, List.length_nil, List.map_cons, List.map_nil, List.sum_cons, List.sum_nil, Nat.reduceAdd, Nat.reduceLeDiff, Value.category, Option.toList, true_or, or_true, z_ua, ↓reduceIte, Nat.reduceEqDiff, eq_self, not_true_eq_false, not_false_eq_true, false_implies, true_implies, Classical.not_not, Nat.le_refl, Nat.zero_le, nI_add, le]
      try dsimp only
      exact lk i (by omega) hai iff
    · have nle : ¬ nI b ≤ nI (a + i) := nI_ge (by omega) (by omega)
      have e1 : (nI (k + 1 + i)).toNatClampNeg = k + 1 + i := nI_clamp (by omega)
      have v1 : vp_in (nI (k + 1 + i)) 30 := vp_in_nI (by omega) (by omega)
      have e2 : (nI (a + i)).toNatClampNeg = a + i := nI_clamp (by omega)
      have v2 : vp_in (nI (a + i)) 800 := vp_in_nI (by omega) (by omega)
      have h32' : I 78 (k + 1 + i) = 32 := by rw [ei]; exact h32
      have ne : ¬ (32 : Int32) = I 77 (a + i) := fun q => hnl (a + i) (by omega) (by omega) q.symm
      refine zW_ok hj B176_19 19 _ _ _ _ _ b176_19 ?_
      simp only [B176_19, zW, z_wp1, z_ld, z_f0, z_f1, z_f2, z_f3, List.getElem?_cons_zero, List.getElem?_cons_succ, true_and, and_true, Int32.reduceOfInt, z_i10, z_i01, Int32.reduceLT, Int32.reduceLE, Int32.reduceAdd, Int32.reduceSub, z_set, z_set2, z_kil, List.set_cons_zero, List.set_cons_succ, List.take_succ_cons, List.take_zero, List.drop_succ_cons, List.drop_zero, List.reverse_cons, List.reverse_nil, List.nil_append, List.cons_append, List.getD_cons_succ, List.getD_cons_zero, List.getD_nil, List.length_cons, List.length_nil, List.map_cons, List.map_nil, List.sum_cons, List.sum_nil, Nat.reduceAdd, Nat.reduceLeDiff, Value.category, Option.toList, true_or, or_true, z_ua, ↓reduceIte, Nat.reduceEqDiff, eq_self, not_true_eq_false, not_false_eq_true, false_implies, true_implies, Classical.not_not, Nat.le_refl, Nat.zero_le, nI_add, nI_1, nle, sK71 hS, sG71_16 hS, sK78 hS, sL78 hS, sG71_10 hS, sK77 hS, sL77 hS, e1, v1, e2, v2, h32', ne]
      try dsimp only
      exact lk i (by omega) hai iff
  | succ f ih =>
    intro i hi hai hm
    have hil : i < w.length := by omega
    have hwi := hw i _ (List.getElem?_eq_getElem hil)
    by_cases hb : a + i = b
    · have le : nI b ≤ nI (a + i) := nI_le (by omega) (by omega)
      refine zW_ok hj B176_19 19 _ _ _ _ _ b176_19 ?_
      simp only [B176_19, zW, z_wp1, z_ld, z_f0, z_f1, z_f2, z_f3, List.getElem?_cons_zero, List.getElem?_cons_succ, true_and, and_true, Int32.reduceOfInt, z_i10, z_i01, Int32.reduceLT, Int32.reduceLE, Int32.reduceAdd, Int32.reduceSub, z_set, z_set2, z_kil, List.set_cons_zero, List.set_cons_succ, List.take_succ_cons, List.take_zero, List.drop_succ_cons, List.drop_zero, List.reverse_cons, List.reverse_nil, List.nil_append, List.cons_append, List.getD_cons_succ, List.getD_cons_zero, List.getD_nil, List.length_cons, List.length_nil, List.map_cons, List.map_nil, List.sum_cons, List.sum_nil, Nat.reduceAdd, Nat.reduceLeDiff, Value.category, Option.toList, true_or, or_true, z_ua, ↓reduceIte, Nat.reduceEqDiff, eq_self, not_true_eq_false, not_false_eq_true, false_implies, true_implies, Classical.not_not, Nat.le_refl, Nat.zero_le, nI_add, le]
      try dsimp only
      exact lk i (by omega) hai ⟨fun q => by have := len q; omega, fun q => by omega⟩
    · have nle : ¬ nI b ≤ nI (a + i) := nI_ge (by omega) (by omega)
      have e1 : (nI (k + 1 + i)).toNatClampNeg = k + 1 + i := nI_clamp (by omega)
      have v1 : vp_in (nI (k + 1 + i)) 30 := vp_in_nI (by omega) (by omega)
      have e2 : (nI (a + i)).toNatClampNeg = a + i := nI_clamp (by omega)
      have v2 : vp_in (nI (a + i)) 800 := vp_in_nI (by omega) (by omega)
      refine zW_ok hj B176_19 19 _ _ _ _ _ b176_19 ?_
      simp only [B176_19, zW, z_wp1, z_ld, z_f0, z_f1, z_f2, z_f3, List.getElem?_cons_zero, List.getElem?_cons_succ, true_and, and_true, Int32.reduceOfInt, z_i10, z_i01, Int32.reduceLT, Int32.reduceLE, Int32.reduceAdd, Int32.reduceSub, z_set, z_set2, z_kil, List.set_cons_zero, List.set_cons_succ, List.take_succ_cons, List.take_zero, List.drop_succ_cons, List.drop_zero, List.reverse_cons, List.reverse_nil, List.nil_append, List.cons_append, List.getD_cons_succ, List.getD_cons_zero, List.getD_nil, List.length_cons, List.length_nil, List.map_cons, List.map_nil, List.sum_cons, List.sum_nil, Nat.reduceAdd, Nat.reduceLeDiff, Value.category, Option.toList, true_or, or_true, z_ua, ↓reduceIte, Nat.reduceEqDiff, eq_self, not_true_eq_false, not_false_eq_true, false_implies, true_implies, Classical.not_not, Nat.le_refl, Nat.zero_le, nI_add, nI_1, nle, sK71 hS, sG71_16 hS, sK78 hS, sL78 hS, sG71_10 hS, sK77 hS, sL77 hS, e1, v1, e2, v2]
      try dsimp only
      refine ⟨fun h => lk i (by omega) hai ⟨fun q => ?_, fun q => by omega⟩, fun h => ih (i + 1) (by omega) (by omega) (fun j c hj hc => ?_)⟩
      · exfalso
        unfold p_sp at q
        rw [Bool.and_eq_true, p_sl_iff] at q
        exact h (by rw [hwi.1, q.2 i _ (List.getElem?_eq_getElem hil)])
      · by_cases z : j = i
        · subst z
          rw [← h]
          exact (hw j c hc).1
        · exact hm j c (by omega) hc
theorem c176_s {X : zX} (hS : SS K L G) (hj : X.2.1 = 176) {k m : Nat} (hm : k + 1 + m ≤ 29) (h32 : I 78 (k + 1 + m) = 32) (hn : ∀ i, i < m → ¬ I 78 (k + 1 + i) = 32) {x1 x2 x3 x5 : Option Value} {y3 : Int32} (kk : zV X 5 [some (.ref 71), x1, x2, some (.int y3), some (.int (nI (k + 1 + m))), x5] [] (n, K, L, I, J, G) 0 0) : ∀ (f i : Nat), i + f = m → zV X 93 [some (.ref 71), x1, x2, some (.int y3), some (.int (nI (k + 1 + i))), x5] [] (n, K, L, I, J, G) 0 0
  | 0, i, hi => by
    have e : i = m := by omega
    subst e
    have e1 : (nI (k + 1 + i)).toNatClampNeg = k + 1 + i := nI_clamp (by omega)
    have v1 : vp_in (nI (k + 1 + i)) 30 := vp_in_nI (by omega) (by omega)
    refine zW_ok hj B176_93 93 _ _ _ _ _ b176_93 ?_
    simp only [B176_93, zW, z_wp1, z_ld, z_f0, z_f1, z_f2, z_f3, List.getElem?_cons_zero, List.getElem?_cons_succ, true_and, and_true, Int32.reduceOfInt, z_i10, z_i01, Int32.reduceLT, Int32.reduceLE, Int32.reduceAdd, Int32.reduceSub, z_set, z_set2, z_kil, List.set_cons_zero, List.set_cons_succ, List.take_succ_cons, List.take_zero, List.drop_succ_cons, List.drop_zero, List.reverse_cons, List.reverse_nil, List.nil_append, List.cons_append, List.getD_cons_succ, List.getD_cons_zero, List.getD_nil, List.length_cons, List.length_nil, List.map_cons, List.map_nil, List.sum_cons, List.sum_nil, Nat.reduceAdd, Nat.reduceLeDiff, Value.category, Option.toList, true_or, or_true, z_ua, ↓reduceIte, Nat.reduceEqDiff, eq_self, not_true_eq_false, not_false_eq_true, false_implies, true_implies, Classical.not_not, Nat.le_refl, Nat.zero_le, sK71 hS, sG71_16 hS, sK78 hS, sL78 hS, e1, v1, h32]
    try dsimp only
    refine zW_ok hj B176_114 114 _ _ _ _ _ b176_114 ?_
    simp only [B176_114, zW, z_wp1, z_ld, z_f0, z_f1, z_f2, z_f3, List.getElem?_cons_zero, List.getElem?_cons_succ, true_and, and_true, Int32.reduceOfInt, z_i10, z_i01, Int32.reduceLT, Int32.reduceLE, Int32.reduceAdd, Int32.reduceSub, z_set, z_set2, z_kil, List.set_cons_zero, List.set_cons_succ, List.take_succ_cons, List.take_zero, List.drop_succ_cons, List.drop_zero, List.reverse_cons, List.reverse_nil, List.nil_append, List.cons_append, List.getD_cons_succ, List.getD_cons_zero, List.getD_nil, List.length_cons, List.length_nil, List.map_cons, List.map_nil, List.sum_cons, List.sum_nil, Nat.reduceAdd, Nat.reduceLeDiff, Value.category, Option.toList, true_or, or_true, z_ua, ↓reduceIte, Nat.reduceEqDiff, eq_self, not_true_eq_false, not_false_eq_true, false_implies, true_implies, Classical.not_not, Nat.le_refl, Nat.zero_le]
    try dsimp only
    exact kk
  | f + 1, i, hi => by
    have e1 : (nI (k + 1 + i)).toNatClampNeg = k + 1 + i := nI_clamp (by omega)
    have v1 : vp_in (nI (k + 1 + i)) 30 := vp_in_nI (by omega) (by omega)
    have ne := hn i (by omega)
    have ih := c176_s hS hj hm h32 hn (x3 := x3) kk f (i + 1) (by omega)
    refine zW_ok hj B176_93 93 _ _ _ _ _ b176_93 ?_
    simp only [B176_93, zW, z_wp1, z_ld, z_f0, z_f1, z_f2, z_f3, List.getElem?_cons_zero, List.getElem?_cons_succ, true_and, and_true, Int32.reduceOfInt, z_i10, z_i01, Int32.reduceLT, Int32.reduceLE, Int32.reduceAdd, Int32.reduceSub, z_set, z_set2, z_kil, List.set_cons_zero, List.set_cons_succ, List.take_succ_cons, List.take_zero, List.drop_succ_cons, List.drop_zero, List.reverse_cons, List.reverse_nil, List.nil_append, List.cons_append, List.getD_cons_succ, List.getD_cons_zero, List.getD_nil, List.length_cons, List.length_nil, List.map_cons, List.map_nil, List.sum_cons, List.sum_nil, Nat.reduceAdd, Nat.reduceLeDiff, Value.category, Option.toList, true_or, or_true, z_ua, ↓reduceIte, Nat.reduceEqDiff, eq_self, not_true_eq_false, not_false_eq_true, false_implies, true_implies, Classical.not_not, Nat.le_refl, Nat.zero_le, sK71 hS, sG71_16 hS, sK78 hS, sL78 hS, e1, v1, ne, nI_1]
    try dsimp only
    exact ih
theorem c176_l {X : zX} (hS : SS K L G) (hj : X.2.1 = 176) (hab : a < b) (hb8 : b ≤ 800) (hnl : ∀ j, a ≤ j → j < b → ¬ I 77 j = 32) : ∀ (ws : List (List Int32)) (k m : Nat) (v3 : Int32) (x5 : Option Value), p_lay (I 78) k ws → v3 + 1 = nI m → (∀ r h', r = some (.int (p_wl (I 77) a b ws m)) ∧ h' = (n, K, L, I, J, G) → X.2.2.2.2.2.2 r h') → zV X 5 [some (.ref 71), some (.int (nI a)), some (.int (nI b)), some (.int v3), some (.int (nI k)), x5] [] (n, K, L, I, J, G) 0 0
  | [], k, m, v3, x5, hl, hv, hQ => by
    have n29 : (29 : Int32) ≤ nI k := by rw [hl.1]; decide
    refine zW_ok hj B176_5 5 _ _ _ _ _ b176_5 ?_
    simp only [B176_5, zW, z_wp1, z_ld, z_f0, z_f1, z_f2, z_f3, List.getElem?_cons_zero, List.getElem?_cons_succ, true_and, and_true, Int32.reduceOfInt, z_i10, z_i01, Int32.reduceLT, Int32.reduceLE, Int32.reduceAdd, Int32.reduceSub, z_set, z_set2, z_kil, List.set_cons_zero, List.set_cons_succ, List.take_succ_cons, List.take_zero, List.drop_succ_cons, List.drop_zero, List.reverse_cons, List.reverse_nil, List.nil_append, List.cons_append, List.getD_cons_succ, List.getD_cons_zero, List.getD_nil, List.length_cons, List.length_nil, List.map_cons, List.map_nil, List.sum_cons, List.sum_nil, Nat.reduceAdd, Nat.reduceLeDiff, Value.category, Option.toList, true_or, or_true, z_ua, ↓reduceIte, Nat.reduceEqDiff, eq_self, not_true_eq_false, not_false_eq_true, false_implies, true_implies, Classical.not_not, Nat.le_refl, Nat.zero_le, n29]
    try dsimp only
    refine zW_ok hj B176_117 117 _ _ _ _ _ b176_117 ?_
    simp only [B176_117, zW, z_wp1, z_ld, z_f0, z_f1, z_f2, z_f3, List.getElem?_cons_zero, List.getElem?_cons_succ, true_and, and_true, Int32.reduceOfInt, z_i10, z_i01, Int32.reduceLT, Int32.reduceLE, Int32.reduceAdd, Int32.reduceSub, z_set, z_set2, z_kil, List.set_cons_zero, List.set_cons_succ, List.take_succ_cons, List.take_zero, List.drop_succ_cons, List.drop_zero, List.reverse_cons, List.reverse_nil, List.nil_append, List.cons_append, List.getD_cons_succ, List.getD_cons_zero, List.getD_nil, List.length_cons, List.length_nil, List.map_cons, List.map_nil, List.sum_cons, List.sum_nil, Nat.reduceAdd, Nat.reduceLeDiff, Value.category, Option.toList, true_or, or_true, z_ua, ↓reduceIte, Nat.reduceEqDiff, eq_self, not_true_eq_false, not_false_eq_true, false_implies, true_implies, Classical.not_not, Nat.le_refl, Nat.zero_le]
    try dsimp only
    exact hQ _ _ ⟨rfl, rfl⟩
  | w :: r, k, m, v3, x5, hl, hv, hQ => by
    obtain ⟨l1, l2, l3, l4⟩ := hl
    have h32 := p_lay_0 l4
    have n29 : ¬ (29 : Int32) ≤ nI k := fun q => by
      have := (nI_leI (a := 29) (b := k) (by omega) (by omega)).mp q
      omega
    refine zW_ok hj B176_5 5 _ _ _ _ _ b176_5 ?_
    simp only [B176_5, zW, z_wp1, z_ld, z_f0, z_f1, z_f2, z_f3, List.getElem?_cons_zero, List.getElem?_cons_succ, true_and, and_true, Int32.reduceOfInt, z_i10, z_i01, Int32.reduceLT, Int32.reduceLE, Int32.reduceAdd, Int32.reduceSub, z_set, z_set2, z_kil, List.set_cons_zero, List.set_cons_succ, List.take_succ_cons, List.take_zero, List.drop_succ_cons, List.drop_zero, List.reverse_cons, List.reverse_nil, List.nil_append, List.cons_append, List.getD_cons_succ, List.getD_cons_zero, List.getD_nil, List.length_cons, List.length_nil, List.map_cons, List.map_nil, List.sum_cons, List.sum_nil, Nat.reduceAdd, Nat.reduceLeDiff, Value.category, Option.toList, true_or, or_true, z_ua, ↓reduceIte, Nat.reduceEqDiff, eq_self, not_true_eq_false, not_false_eq_true, false_implies, true_implies, Classical.not_not, Nat.le_refl, Nat.zero_le, n29, hv]
    try dsimp only
    refine (c176_w hS hj hab hb8 hnl h32 l2 l3 (v := nI m) (fun hy => hQ _ _ ⟨by rw [p_wl, if_pos hy], rfl⟩) (fun hno y => ?_) w.length 0 (by omega) (by omega) (fun j c hj => by omega)).weak (by simp only [z_le, nI_0]; simp)
    refine zW_ok hj B176_87 87 _ _ _ _ _ b176_87 ?_
    simp only [B176_87, zW, z_wp1, z_ld, z_f0, z_f1, z_f2, z_f3, List.getElem?_cons_zero, List.getElem?_cons_succ, true_and, and_true, Int32.reduceOfInt, z_i10, z_i01, Int32.reduceLT, Int32.reduceLE, Int32.reduceAdd, Int32.reduceSub, z_set, z_set2, z_kil, List.set_cons_zero, List.set_cons_succ, List.take_succ_cons, List.take_zero, List.drop_succ_cons, List.drop_zero, List.reverse_cons, List.reverse_nil, List.nil_append, List.cons_append, List.getD_cons_succ, List.getD_cons_zero, List.getD_nil, List.length_cons, List.length_nil, List.map_cons, List.map_nil, List.sum_cons, List.sum_nil, Nat.reduceAdd, Nat.reduceLeDiff, Value.category, Option.toList, true_or, or_true, z_ua, ↓reduceIte, Nat.reduceEqDiff, eq_self, not_true_eq_false, not_false_eq_true, false_implies, true_implies, Classical.not_not, Nat.le_refl, Nat.zero_le, nI_1]
    try dsimp only
    have := c176_s (I := I) (J := J) (n := n) hS hj (k := k) (m := w.length) l2 h32 (fun i hi => (l3 i _ (List.getElem?_eq_getElem hi)).1 ▸ (l3 i _ (List.getElem?_eq_getElem hi)).2) (x3 := none) (c176_l hS hj hab hb8 hnl r (k + 1 + w.length) (m + 1) (nI m) y l4 (nI_1 m) (by rw [p_wl, if_neg hno] at hQ; exact hQ)) w.length 0 (by omega)
    exact this
/-- wordAt -/
theorem c176 (hS : SS K L G) (hW : p_lay (I 78) 0 p_ws) (hab : a < b) (hb8 : b ≤ 800) (hnl : ∀ j, a ≤ j → j < b → ¬ I 77 j = 32) : z_D l 0 176 [.ref 71, .int (nI a), .int (nI b)] (n, K, L, I, J, G) (some (.int (p_w (I 77) a b))) (n, K, L, I, J, G) := by
  refine z_ctr (by decide) (by decide +kernel) (Nat.le_of_ble_eq_true rfl) (by decide +kernel) (fun X hl hj hd hm hs hsc hQ => ?_)
  show zV X 0 [some (.ref 71), some (.int (nI a)), some (.int (nI b)), none, none, none] [] _ 0 0
  refine zW_ok hj B176_0 0 _ _ _ _ _ b176_0 ?_
  simp only [B176_0, zW, z_wp1, z_ld, z_f0, z_f1, z_f2, z_f3, List.getElem?_cons_zero, List.getElem?_cons_succ, true_and, and_true, Int32.reduceOfInt, z_i10, z_i01, Int32.reduceLT, Int32.reduceLE, Int32.reduceAdd, Int32.reduceSub, z_set, z_set2, z_kil, List.set_cons_zero, List.set_cons_succ, List.take_succ_cons, List.take_zero, List.drop_succ_cons, List.drop_zero, List.reverse_cons, List.reverse_nil, List.nil_append, List.cons_append, List.getD_cons_succ, List.getD_cons_zero, List.getD_nil, List.length_cons, List.length_nil, List.map_cons, List.map_nil, List.sum_cons, List.sum_nil, Nat.reduceAdd, Nat.reduceLeDiff, Value.category, Option.toList, true_or, or_true, z_ua, ↓reduceIte, Nat.reduceEqDiff, eq_self, not_true_eq_false, not_false_eq_true, false_implies, true_implies, Classical.not_not, Nat.le_refl, Nat.zero_le]
  try dsimp only
  exact (c176_l hS hj hab hb8 hnl p_ws 0 0 (-1) none hW (by decide) hQ).weak (by simp only [z_le, nI_0]; simp)
end LEX
