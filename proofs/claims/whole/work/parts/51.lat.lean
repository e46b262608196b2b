/-! Closures from all rows above a set, mark by mark -/
theorem m_clo_bits (row : Nat → Int32) (s a0 : Int32) (b : Nat) : ∀ F, zb (m_clo row s a0 F) b = true ↔ zb a0 b = true ∧ ∀ f, f < F → row f &&& s = s → zb (row f) b = true
  | 0 => by simp [m_clo]
  | F + 1 => by
    have ih := m_clo_bits row s a0 b F
    rw [m_clo]
    by_cases h : row F &&& s = s
    · rw [if_pos h, zb_and, Bool.and_eq_true, ih]
      constructor
      · rintro ⟨⟨a, c⟩, d⟩
        refine ⟨a, fun f hf hs => ?_⟩
        by_cases e : f = F
        · rw [e]; exact d
        · exact c f (by omega) hs
      · rintro ⟨a, c⟩
        exact ⟨⟨a, fun f hf => c f (by omega)⟩, c F (by omega) h⟩
    · rw [if_neg h, ih]
      constructor
      · rintro ⟨a, c⟩
        refine ⟨a, fun f hf hs => ?_⟩
        by_cases e : f = F
        · rw [e] at hs; exact absurd hs h
        · exact c f (by omega) hs
      · rintro ⟨a, c⟩
        exact ⟨a, fun f hf => c f (by omega)⟩
theorem zb_eq_of {a b : Int32} (h : ∀ i, zb a i = true ↔ zb b i = true) : a = b := zb_ext (fun i _ => by
  have := h i
  cases ha : zb a i <;> cases hb : zb b i <;> simp_all)
def x_mt (N i : Nat) (s r : Int32) : Prop := ∀ j, j < N → (j < i → zb s j = true → zb r j = true) ∧ (i ≤ j → zb s j = zb r j)
def x_P (rw' : Nat → Int32) (N F i : Nat) (s x : Int32) : Prop := ∀ b, zb x b = true ↔ b < N ∧ ∀ f, f < F → x_mt N i s (rw' f) → zb (rw' f) b = true
theorem x_P_0 {rw' : Nat → Int32} {N F : Nat} (hN : N ≤ 16) (hr : ∀ f, f < F → ∀ b, N ≤ b → zb (rw' f) b = false) {s x : Int32} (hs : ∀ b, N ≤ b → zb s b = false) (h1 : (∃ f, f < F ∧ rw' f = s) → x = s) (h2 : ¬ (∃ f, f < F ∧ rw' f = s) → x = nI (2 ^ N) - 1) : x_P rw' N F 0 s x := by
  have key : ∀ f, f < F → (x_mt N 0 s (rw' f) ↔ rw' f = s) := by
    intro f hf
    constructor
    · intro h
      refine zb_ext (fun i _ => ?_)
      by_cases hi : i < N
      · exact ((h i hi).2 (by omega)).symm
      · rw [hr f hf i (by omega), hs i (by omega)]
    · intro h j hj
      rw [h]
      exact ⟨fun _ q => q, fun _ => rfl⟩
  intro b
  by_cases hex : ∃ f, f < F ∧ rw' f = s
  · rw [h1 hex]
    constructor
    · intro hb
      refine ⟨?_, fun f hf hm => ?_⟩
      · rcases Nat.lt_or_ge b N with h | h
        · exact h
        · rw [hs b h] at hb; cases hb
      · rw [(key f hf).mp hm]; exact hb
    · rintro ⟨_, h⟩
      obtain ⟨f, hf, e⟩ := hex
      have := h f hf ((key f hf).mpr e)
      rw [e] at this
      exact this
  · rw [h2 hex, zb_full hN]
    simp only [decide_eq_true_eq]
    constructor
    · intro hb
      exact ⟨hb, fun f hf hm => absurd ⟨f, hf, (key f hf).mp hm⟩ hex⟩
    · exact fun h => h.1
theorem x_P_s1 {rw' : Nat → Int32} {N F i : Nat} {s x : Int32} (hi : i < N) (hs : zb s i = true) (h : x_P rw' N F i s x) : x_P rw' N F (i + 1) s x := by
  have key : ∀ r, x_mt N (i + 1) s r ↔ x_mt N i s r := by
    intro r
    constructor
    · intro h j hj
      obtain ⟨a, c⟩ := h j hj
      refine ⟨fun hji => a (by omega), fun hij => ?_⟩
      by_cases e : j = i
      · subst e
        rw [hs, a (by omega) hs]
      · exact c (by omega)
    · intro h j hj
      obtain ⟨a, c⟩ := h j hj
      refine ⟨fun hji q => ?_, fun hij => c (by omega)⟩
      by_cases e : j = i
      · subst e
        rw [← c (Nat.le_refl _)]; exact q
      · exact a (by omega) q
  intro b
  rw [h b]
  simp only [key]
theorem x_P_s0 {rw' : Nat → Int32} {N F i : Nat} {s x y : Int32} (hi : i < N) (hN : N ≤ 16) (hs : zb s i = false) (h : x_P rw' N F i s x) (h' : x_P rw' N F i (s ||| 1 <<< (nI i &&& 31)) y) : x_P rw' N F (i + 1) s (x &&& y) := by
  have hbit : ∀ j, zb (s ||| 1 <<< (nI i &&& 31)) j = (zb s j || decide (j = i)) := fun j => by rw [zb_or, zb_sh1 (by omega)]
  have key : ∀ r, x_mt N (i + 1) s r ↔ x_mt N i s r ∨ x_mt N i (s ||| 1 <<< (nI i &&& 31)) r := by
    intro r
    constructor
    · intro h
      cases hr : zb r i with
      | false =>
        refine Or.inl (fun j hj => ?_)
        obtain ⟨a, c⟩ := h j hj
        refine ⟨fun hji => a (by omega), fun hij => ?_⟩
        by_cases e : j = i
        · subst e; rw [hs, hr]
        · exact c (by omega)
      | true =>
        refine Or.inr (fun j hj => ?_)
        obtain ⟨a, c⟩ := h j hj
        rw [hbit]
        refine ⟨fun hji q => ?_, fun hij => ?_⟩
        · have : ¬ j = i := by omega
          simp [this] at q
          exact a (by omega) q
        · by_cases e : j = i
          · subst e; rw [hr]; simp
          · simp [e]; exact c (by omega)
    · rintro (h | h)
      · intro j hj
        obtain ⟨a, c⟩ := h j hj
        refine ⟨fun hji q => ?_, fun hij => c (by omega)⟩
        by_cases e : j = i
        · subst e; rw [hs] at q; cases q
        · exact a (by omega) q
      · intro j hj
        obtain ⟨a, c⟩ := h j hj
        rw [hbit] at a c
        refine ⟨fun hji q => ?_, fun hij => ?_⟩
        · by_cases e : j = i
          · subst e; rw [hs] at q; cases q
          · exact a (by omega) (by simp [q])
        · have := c (by omega)
          rw [← this]
          simp
          omega
  intro b
  rw [zb_and, Bool.and_eq_true, h b, h' b]
  simp only [key]
  constructor
  · rintro ⟨⟨a, c⟩, ⟨_, d⟩⟩
    exact ⟨a, fun f hf hm => hm.elim (c f hf) (d f hf)⟩
  · rintro ⟨a, c⟩
    exact ⟨⟨a, fun f hf hm => c f hf (Or.inl hm)⟩, a, fun f hf hm => c f hf (Or.inr hm)⟩
theorem x_P_N {rw' : Nat → Int32} {N F : Nat} (hN : N ≤ 16) {s x : Int32} (hs : ∀ b, N ≤ b → zb s b = false) (h : x_P rw' N F N s x) : x = m_clo rw' s (nI (2 ^ N) - 1) F := by
  refine zb_eq_of (fun b => ?_)
  rw [h b, m_clo_bits, zb_full hN, decide_eq_true_eq]
  have key : ∀ f, x_mt N N s (rw' f) ↔ rw' f &&& s = s := by
    intro f
    rw [zb_sub]
    constructor
    · intro h i hi
      rcases Nat.lt_or_ge i N with q | q
      · exact (h i q).1 q hi
      · rw [hs i q] at hi; cases hi
    · intro h j hj
      exact ⟨fun _ => h j, fun q => by omega⟩
  simp only [key]
/-- a lattice of the class: its rows of closures and closed sets -/
def XL (K L : Nat → Nat) (G : Nat → Nat → Value) (lp c1 c2 S : Nat) : Prop := K lp = 3 ∧ G lp 2 = .ref c1 ∧ K c1 = 13 ∧ L c1 = S ∧ S < 2 ^ 31 ∧ G lp 3 = .ref c2 ∧ K c2 = 13 ∧ L c2 = S ∧ c1 ≠ lp ∧ c2 ≠ lp ∧ c1 ≠ c2 ∧ lp ≠ c1 ∧ lp ≠ c2 ∧ c2 ≠ c1
section LAT
variable {l : Launch} {n : Nat} {K L : Nat → Nat} {I : Nat → Nat → Int32} {J : Nat → Nat → Int64} {G : Nat → Nat → Value} {lp c1 c2 S N F : Nat} {rw' : Nat → Int32}
theorem z_or1 {s i N : Nat} (hN : N ≤ 16) (hs : s < 2 ^ N) (hi : i < N) : ∃ t, t < 2 ^ N ∧ nI s ||| 1 <<< (nI i &&& 31) = nI t := by
  refine zb_toN hN (fun j hj => ?_)
  rw [zb_or, zb_of hN hs hj, zb_sh1 (by omega)]
  simp
  omega
theorem c31_in {X : zX} (hL : XL K L G lp c1 c2 S) (hj : X.2.1 = 31) {i : Nat} (hi : i < N) (hN12 : N ≤ 12) (hS2 : 2 ^ N ≤ S) (hsz : I lp 1 = nI (2 ^ N)) (kk : ∀ I', (∀ q, q ≠ c1 → I' q = I q) → (∀ s, s < 2 ^ N → x_P rw' N F (i + 1) (nI s) (I' c1 s)) → zV X 53 [some (.ref lp), some (.int (nI i)), some (.int (nI (2 ^ N)))] [] (n, K, L, I', J, G) 0 0) : ∀ (k s : Nat) (I' : Nat → Nat → Int32), s + k = 2 ^ N → (∀ q, q ≠ c1 → I' q = I q) → (∀ t, t < s → x_P rw' N F (i + 1) (nI t) (I' c1 t)) → (∀ t, s ≤ t → t < 2 ^ N → x_P rw' N F i (nI t) (I' c1 t)) → zV X 12 [some (.ref lp), some (.int (nI i)), some (.int (nI s))] [] (n, K, L, I', J, G) 0 0
  | 0, s, I', hk, ho, h1, h2 => by
    obtain ⟨q1, q2, q3, q4, q5, q6, q7, q8, q9, q10, q11, q12, q13, q14⟩ := hL
    have hp := z_pow hN12
    have e : s = 2 ^ N := by omega
    subst e
    have hsz' : I' lp 1 = nI (2 ^ N) := by rw [ho lp q12]; exact hsz
    refine zW_ok hj B31_12 12 _ _ _ _ _ b31_12 ?_
    simp only [B31_12, zW, z_wp1, z_ld, z_f0, z_f1, z_f2, z_f3, List.getElem?_cons_zero, List.getElem?_cons_succ, true_and, and_true, Int32.reduceOfInt, z_i10, z_i01, Int32.reduceLT, Int32.reduceLE, Int32.reduceAdd, Int32.reduceSub, z_set, z_set2, z_kil, List.set_cons_zero, List.set_cons_succ, List.take_succ_cons, List.take_zero, List.drop_succ_cons, List.drop_zero, List.reverse_cons, List.reverse_nil, List.nil_append, List.cons_append, List.getD_cons_succ, List.getD_cons_zero, List.getD_nil, List.length_cons, List.length_nil, List.map_cons, List.map_nil, List.sum_cons, List.sum_nil, Nat.reduceAdd, Nat.reduceLeDiff, Value.category, Option.toList, true_or, or_true, z_ua, ↓reduceIte, Nat.reduceEqDiff, eq_self, not_true_eq_false, not_false_eq_true, false_implies, true_implies, Classical.not_not, Nat.le_refl, Nat.zero_le, q1, hsz']
    try dsimp only
    refine ⟨fun _ => kk I' ho h1, fun hc => absurd (nI_le (Nat.le_refl _) (by omega)) hc⟩
  | k + 1, s, I', hk, ho, h1, h2 => by
    obtain ⟨q1, q2, q3, q4, q5, q6, q7, q8, q9, q10, q11, q12, q13, q14⟩ := id hL
    have hp := z_pow hN12
    have hsz' : I' lp 1 = nI (2 ^ N) := by rw [ho lp q12]; exact hsz
    have e1 : (nI s).toNatClampNeg = s := nI_clamp (by omega)
    have v1 : vp_in (nI s) S := vp_in_nI (by omega) q5
    obtain ⟨t, ht, et⟩ := z_or1 (s := s) (by omega) (show s < 2 ^ N by omega) hi
    have e2 : (nI t).toNatClampNeg = t := nI_clamp (by omega)
    have v2 : vp_in (nI t) S := vp_in_nI (by omega) q5
    have step : ∀ I2, (∀ q, q ≠ c1 → I2 q = I q) → (∀ u, u ≠ s → I2 c1 u = I' c1 u) → x_P rw' N F (i + 1) (nI s) (I2 c1 s) → zV X 47 [some (.ref lp), some (.int (nI i)), some (.int (nI s))] [] (n, K, L, I2, J, G) 0 0 := by
      intro I2 g1 g2 g3
      refine zW_ok hj B31_47 47 _ _ _ _ _ b31_47 ?_
      simp only [B31_47, zW, z_wp1, z_ld, z_f0, z_f1, z_f2, z_f3, List.getElem?_cons_zero, List.getElem?_cons_succ, true_and, and_true, Int32.reduceOfInt, z_i10, z_i01, Int32.reduceLT, Int32.reduceLE, Int32.reduceAdd, Int32.reduceSub, z_set, z_set2, z_kil, List.set_cons_zero, List.set_cons_succ, List.take_succ_cons, List.take_zero, List.drop_succ_cons, List.drop_zero, List.reverse_cons, List.reverse_nil, List.nil_append, List.cons_append, List.getD_cons_succ, List.getD_cons_zero, List.getD_nil, List.length_cons, List.length_nil, List.map_cons, List.map_nil, List.sum_cons, List.sum_nil, Nat.reduceAdd, Nat.reduceLeDiff, Value.category, Option.toList, true_or, or_true, z_ua, ↓reduceIte, Nat.reduceEqDiff, eq_self, not_true_eq_false, not_false_eq_true, false_implies, true_implies, Classical.not_not, Nat.le_refl, Nat.zero_le, nI_1]
      try dsimp only
      refine c31_in hL hj hi hN12 hS2 hsz kk k (s + 1) I2 (by omega) g1 (fun u hu => ?_) (fun u hu hu2 => ?_)
      · by_cases e : u = s
        · rw [e]; exact g3
        · rw [g2 u e]; exact h1 u (by omega)
      · rw [g2 u (by omega)]; exact h2 u (by omega) hu2
    refine zW_ok hj B31_12 12 _ _ _ _ _ b31_12 ?_
    simp only [B31_12, zW, z_wp1, z_ld, z_f0, z_f1, z_f2, z_f3, List.getElem?_cons_zero, List.getElem?_cons_succ, true_and, and_true, Int32.reduceOfInt, z_i10, z_i01, Int32.reduceLT, Int32.reduceLE, Int32.reduceAdd, Int32.reduceSub, z_set, z_set2, z_kil, List.set_cons_zero, List.set_cons_succ, List.take_succ_cons, List.take_zero, List.drop_succ_cons, List.drop_zero, List.reverse_cons, List.reverse_nil, List.nil_append, List.cons_append, List.getD_cons_succ, List.getD_cons_zero, List.getD_nil, List.length_cons, List.length_nil, List.map_cons, List.map_nil, List.sum_cons, List.sum_nil, Nat.reduceAdd, Nat.reduceLeDiff, Value.category, Option.toList, true_or, or_true, z_ua, ↓reduceIte, Nat.reduceEqDiff, eq_self, not_true_eq_false, not_false_eq_true, false_implies, true_implies, Classical.not_not, Nat.le_refl, Nat.zero_le, q1, hsz', q2, q3, q4, e1, v1, et, e2, v2]
    try dsimp only
    refine ⟨fun hc => absurd hc (nI_ge (by omega) (by omega)), fun _ => ⟨fun hb => ?_, fun hb => ?_⟩⟩
    · refine step I' ho (fun _ _ => rfl) (x_P_s1 hi ?_ (h2 s (Nat.le_refl _) (by omega)))
      rw [zb_get0 (by omega)] at hb
      simpa using hb
    · rw [zb_get0 (by omega)] at hb
      have hne : ¬ t = s := by
        intro e
        have := congrArg (fun z => zb z i) et
        simp only [zb_or, hb, zb_sh1 (show i < 32 by omega), e] at this
        simp at this
      have hlt : s ≤ t := by
        have h3 := congrArg (fun z => (∀ j, zb z j = true → True)) et
        rcases Nat.lt_or_ge t s with q | q
        · exfalso
          have hbits : ∀ j, s.testBit j = true → t.testBit j = true := by
            intro j hj
            have := congrArg (fun z => zb z j) et
            simp only [zb_or, zb_nI (show s < 2 ^ 32 by omega), zb_nI (show t < 2 ^ 32 by omega), hj] at this
            simpa using this.symm
          have : s &&& t = s := Nat.eq_of_testBit_eq (fun j => by
            rw [Nat.testBit_and]
            cases hs' : s.testBit j with
            | false => rfl
            | true => rw [hbits j hs']; rfl)
          have h4 : s &&& t ≤ t := Nat.and_le_right
          omega
        · exact q
      refine step _ (fun q hq => by rw [z_u_ne hq]; exact ho q hq) (fun u hu => by rw [z_u_at, if_neg hu]) ?_
      rw [z_u_at, if_pos rfl]
      refine x_P_s0 hi (by omega) hb (h2 s (Nat.le_refl _) (by omega)) ?_
      rw [et]
      exact h2 t hlt ht
theorem c31_out {X : zX} (hL : XL K L G lp c1 c2 S) (hj : X.2.1 = 31) (hN12 : N ≤ 12) (hS2 : 2 ^ N ≤ S) (hsz : I lp 1 = nI (2 ^ N)) (hmk : I lp 0 = nI N) (hQ : ∀ r h', (r = none ∧ ∃ I', h' = (n, K, L, I', J, G) ∧ (∀ q, q ≠ c1 → I' q = I q) ∧ ∀ s, s < 2 ^ N → I' c1 s = m_clo rw' (nI s) (nI (2 ^ N) - 1) F) → X.2.2.2.2.2.2 r h') : ∀ (k i : Nat) (I' : Nat → Nat → Int32) (x : Option Value), i + k = N → (∀ q, q ≠ c1 → I' q = I q) → (∀ s, s < 2 ^ N → x_P rw' N F i (nI s) (I' c1 s)) → zV X 2 [some (.ref lp), some (.int (nI i)), x] [] (n, K, L, I', J, G) 0 0
  | 0, i, I', x, hk, ho, h1 => by
    obtain ⟨q1, q2, q3, q4, q5, q6, q7, q8, q9, q10, q11, q12, q13, q14⟩ := hL
    have e : i = N := by omega
    subst e
    have hmk' : I' lp 0 = nI i := by rw [ho lp q12]; exact hmk
    refine zW_ok hj B31_2 2 _ _ _ _ _ b31_2 ?_
    simp only [B31_2, zW, z_wp1, z_ld, z_f0, z_f1, z_f2, z_f3, List.getElem?_cons_zero, List.getElem?_cons_succ, true_and, and_true, Int32.reduceOfInt, z_i10, z_i01, Int32.reduceLT, Int32.reduceLE, Int32.reduceAdd, Int32.reduceSub, z_set, z_set2, z_kil, List.set_cons_zero, List.set_cons_succ, List.take_succ_cons, List.take_zero, List.drop_succ_cons, List.drop_zero, List.reverse_cons, List.reverse_nil, List.nil_append, List.cons_append, List.getD_cons_succ, List.getD_cons_zero, List.getD_nil, List.length_cons, List.length_nil, List.map_cons, List.map_nil, List.sum_cons, List.sum_nil, Nat.reduceAdd, Nat.reduceLeDiff, Value.category, Option.toList, true_or, or_true, z_ua, ↓reduceIte, Nat.reduceEqDiff, eq_self, not_true_eq_false, not_false_eq_true, false_implies, true_implies, Classical.not_not, Nat.le_refl, Nat.zero_le, q1, hmk']
    try dsimp only
    refine ⟨fun _ => ?_, fun hc => absurd (nI_le (Nat.le_refl _) (by omega)) hc⟩
    refine zW_ok hj B31_59 59 _ _ _ _ _ b31_59 ?_
    simp only [B31_59, zW, z_wp1, z_ld, z_f0, z_f1, z_f2, z_f3, List.getElem?_cons_zero, List.getElem?_cons_succ, true_and, and_true, Int32.reduceOfInt, z_i10, z_i01, Int32.reduceLT, Int32.reduceLE, Int32.reduceAdd, Int32.reduceSub, z_set, z_set2, z_kil, List.set_cons_zero, List.set_cons_succ, List.take_succ_cons, List.take_zero, List.drop_succ_cons, List.drop_zero, List.reverse_cons, List.reverse_nil, List.nil_append, List.cons_append, List.getD_cons_succ, List.getD_cons_zero, List.getD_nil, List.length_cons, List.length_nil, List.map_cons, List.map_nil, List.sum_cons, List.sum_nil, Nat.reduceAdd, Nat.reduceLeDiff, Value.category, Option.toList, true_or, or_true, z_ua, ↓reduceIte, Nat.reduceEqDiff, eq_self, not_true_eq_false, not_false_eq_true, false_implies, true_implies, Classical.not_not, Nat.le_refl, Nat.zero_le]
    try dsimp only
    exact hQ _ _ ⟨rfl, I', rfl, ho, fun s hs => x_P_N (by omega) (fun b hb => zb_of (by omega) hs hb) (h1 s hs)⟩
  | k + 1, i, I', x, hk, ho, h1 => by
    obtain ⟨q1, q2, q3, q4, q5, q6, q7, q8, q9, q10, q11, q12, q13, q14⟩ := id hL
    have hmk' : I' lp 0 = nI N := by rw [ho lp q12]; exact hmk
    have hsz' : I' lp 1 = nI (2 ^ N) := by rw [ho lp q12]; exact hsz
    refine zW_ok hj B31_2 2 _ _ _ _ _ b31_2 ?_
    simp only [B31_2, zW, z_wp1, z_ld, z_f0, z_f1, z_f2, z_f3, List.getElem?_cons_zero, List.getElem?_cons_succ, true_and, and_true, Int32.reduceOfInt, z_i10, z_i01, Int32.reduceLT, Int32.reduceLE, Int32.reduceAdd, Int32.reduceSub, z_set, z_set2, z_kil, List.set_cons_zero, List.set_cons_succ, List.take_succ_cons, List.take_zero, List.drop_succ_cons, List.drop_zero, List.reverse_cons, List.reverse_nil, List.nil_append, List.cons_append, List.getD_cons_succ, List.getD_cons_zero, List.getD_nil, List.length_cons, List.length_nil, List.map_cons, List.map_nil, List.sum_cons, List.sum_nil, Nat.reduceAdd, Nat.reduceLeDiff, Value.category, Option.toList, true_or, or_true, z_ua, ↓reduceIte, Nat.reduceEqDiff, eq_self, not_true_eq_false, not_false_eq_true, false_implies, true_implies, Classical.not_not, Nat.le_refl, Nat.zero_le, q1, hmk']
    try dsimp only
    refine ⟨fun hc => absurd hc (nI_ge (by omega) (by omega)), fun _ => ?_⟩
    refine c31_in (I := I') (rw' := rw') (F := F) hL hj (show i < N by omega) hN12 hS2 hsz' (fun I2 g1 g2 => ?_) (2 ^ N) 0 I' (by omega) (fun _ _ => rfl) (fun t ht => by omega) (fun t _ ht => h1 t ht)
    refine zW_ok hj B31_53 53 _ _ _ _ _ b31_53 ?_
    simp only [B31_53, zW, z_wp1, z_ld, z_f0, z_f1, z_f2, z_f3, List.getElem?_cons_zero, List.getElem?_cons_succ, true_and, and_true, Int32.reduceOfInt, z_i10, z_i01, Int32.reduceLT, Int32.reduceLE, Int32.reduceAdd, Int32.reduceSub, z_set, z_set2, z_kil, List.set_cons_zero, List.set_cons_succ, List.take_succ_cons, List.take_zero, List.drop_succ_cons, List.drop_zero, List.reverse_cons, List.reverse_nil, List.nil_append, List.cons_append, List.getD_cons_succ, List.getD_cons_zero, List.getD_nil, List.length_cons, List.length_nil, List.map_cons, List.map_nil, List.sum_cons, List.sum_nil, Nat.reduceAdd, Nat.reduceLeDiff, Value.category, Option.toList, true_or, or_true, z_ua, ↓reduceIte, Nat.reduceEqDiff, eq_self, not_true_eq_false, not_false_eq_true, false_implies, true_implies, Classical.not_not, Nat.le_refl, Nat.zero_le, nI_1]
    try dsimp only
    exact c31_out hL hj hN12 hS2 hsz hmk hQ k (i + 1) I2 _ (by omega) (fun q hq => (g1 q hq).trans (ho q hq)) g2
/-- meetAbove -/
theorem c31 (hL : XL K L G lp c1 c2 S) (hN12 : N ≤ 12) (hS2 : 2 ^ N ≤ S) (hsz : I lp 1 = nI (2 ^ N)) (hmk : I lp 0 = nI N) (h0 : ∀ s, s < 2 ^ N → x_P rw' N F 0 (nI s) (I c1 s)) : z_Ctr l 0 31 [.ref lp] (n, K, L, I, J, G) 0 0 (fun r h' => r = none ∧ ∃ I', h' = (n, K, L, I', J, G) ∧ (∀ q, q ≠ c1 → I' q = I q) ∧ ∀ s, s < 2 ^ N → I' c1 s = m_clo rw' (nI s) (nI (2 ^ N) - 1) F) := by
  refine z_ctr (by decide) (by decide +kernel) (Nat.le_of_ble_eq_true rfl) (by decide +kernel) (fun X hl hj hd hm hs hsc hQ => ?_)
  show zV X 0 [some (.ref lp), none, none] [] _ 0 0
  refine zW_ok hj B31_0 0 _ _ _ _ _ b31_0 ?_
  simp only [B31_0, zW, z_wp1, z_ld, z_f0, z_f1, z_f2, z_f3, List.getElem?_cons_zero, List.getElem?_cons_succ, true_and, and_true, Int32.reduceOfInt, z_i10, z_i01, Int32.reduceLT, Int32.reduceLE, Int32.reduceAdd, Int32.reduceSub, z_set, z_set2, z_kil, List.set_cons_zero, List.set_cons_succ, List.take_succ_cons, List.take_zero, List.drop_succ_cons, List.drop_zero, List.reverse_cons, List.reverse_nil, List.nil_append, List.cons_append, List.getD_cons_succ, List.getD_cons_zero, List.getD_nil, List.length_cons, List.length_nil, List.map_cons, List.map_nil, List.sum_cons, List.sum_nil, Nat.reduceAdd, Nat.reduceLeDiff, Value.category, Option.toList, true_or, or_true, z_ua, ↓reduceIte, Nat.reduceEqDiff, eq_self, not_true_eq_false, not_false_eq_true, false_implies, true_implies, Classical.not_not, Nat.le_refl, Nat.zero_le]
  try dsimp only
  exact c31_out (rw' := rw') (F := F) hL hj hN12 hS2 hsz hmk hQ N 0 I none (by omega) (fun _ _ => rfl) h0
end LAT
