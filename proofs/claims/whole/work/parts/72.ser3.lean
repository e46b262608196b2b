/-! Rows of finds: the model's -/
theorem lN_0 : lN 0 = 0 := rfl
theorem lN_t {n : Nat} (h : n < 2 ^ 63) : (lN n).toInt = (n : Int) := lg_ofNat_toInt h
theorem lN_lt' {a b : Nat} (ha : a < 2 ^ 63) (hb : b < 2 ^ 63) : lN a < lN b ↔ a < b := by
  rw [Int64.lt_iff_toInt_lt, lN_t ha, lN_t hb]
  omega
theorem lN_le' {a b : Nat} (ha : a < 2 ^ 63) (hb : b < 2 ^ 63) : lN a ≤ lN b ↔ a ≤ b := by
  rw [Int64.le_iff_toInt_le, lN_t ha, lN_t hb]
  omega
theorem lN_of {k : Int64} (h : 0 ≤ k) : ∃ m, m < 2 ^ 63 ∧ k = lN m := by
  rw [Int64.le_iff_toInt_le] at h
  have h0 : (0 : Int64).toInt = 0 := by decide
  rw [h0] at h
  have h2 := Int64.toInt_lt k
  refine ⟨k.toInt.toNat, by omega, Int64.toInt_inj.mp ?_⟩
  rw [lN_t (by omega)]
  omega
theorem s_n_le (u : Nat → Bool) : ∀ n, s_n u n ≤ n
  | 0 => Nat.le_refl _
  | n + 1 => by
    have := s_n_le u n
    rw [s_n]
    split <;> omega
theorem s_fac_le {a : Nat} : ∀ {b : Nat}, a ≤ b → s_fac a ≤ s_fac b
  | 0, h => by rw [show a = 0 by omega]; exact Nat.le_refl _
  | b + 1, h => by
    by_cases e : a = b + 1
    · subst e; exact Nat.le_refl _
    · have := s_fac_le (a := a) (b := b) (by omega)
      rw [s_fac]
      exact Nat.le_trans this (Nat.le_mul_of_pos_left _ (by omega))
theorem s_V_bd {F : Nat} {B : List (Nat → Bool)} {u : Nat → Bool} (hF : F ≤ 16) : s_V F B u < 2 ^ 45 := by
  have h1 := s_V_le (n := F) (B := B) _ u rfl
  have h2 := s_n_le u F
  have h3 := s_fac_le (a := s_n u F) (b := 16) (by omega)
  have h4 : s_fac 16 < 2 ^ 45 := by decide
  omega
/-- blocks out of sets -/
def s_B (N : Nat) (ho : Nat → Int32) : List (Nat → Bool) := (List.range N).map (fun i => zb (ho i))
theorem s_B_mem {N : Nat} {ho : Nat → Int32} {b : Nat → Bool} : b ∈ s_B N ho ↔ ∃ i, i < N ∧ zb (ho i) = b := by simp [s_B]
theorem s_B_congr {N : Nat} {ho ho' : Nat → Int32} (h : ∀ i, i < N → ho i = ho' i) : s_B N ho = s_B N ho' := by
  unfold s_B
  refine List.map_congr_left (fun i hi => ?_)
  rw [h i (List.mem_range.mp hi)]
/-- what is used, of a set -/
def s_u (set stand : Int32) : Nat → Bool := fun f => zb stand f || !zb set f
theorem zb_lt {s : Int32} {i : Nat} (h : zb s i = true) : i < 32 := by
  rcases Nat.lt_or_ge i 32 with q | q
  · exact q
  · rw [zb_ge q] at h; cases h
theorem s_bd_h {F : Nat} {h set stand : Int32} (h1 : ∀ f, zb h f = true → zb set f = true) (h2 : ∀ f, F ≤ f → zb set f = false) : s_bd F (zb h) (s_u set stand) ↔ ¬ h &&& stand = 0 ∧ ¬ h &&& (stand ^^^ -1) = 0 := by
  have lt : ∀ f, zb h f = true → f < F := fun f hf => by
    rcases Nat.lt_or_ge f F with q | q
    · exact q
    · have := h1 f hf
      rw [h2 f q] at this
      cases this
  rw [z_xn, zb_ne0, zb_ne0]
  unfold s_bd s_u
  constructor
  · rintro ⟨⟨p, p1, p2, p3⟩, ⟨q, q1, q2, q3⟩⟩
    have := h1 p p2
    have e := zb_lt q2
    refine ⟨⟨p, zb_lt p2, ?_⟩, ⟨q, e, ?_⟩⟩
    · rw [zb_and, p2]
      rw [this] at p3
      simpa using p3
    · rw [zb_and, zb_not, q2]
      simp at q3
      simp [e, q3.1]
  · rintro ⟨⟨p, p1, p2⟩, ⟨q, q1, q2⟩⟩
    rw [zb_and] at p2
    rw [zb_and, zb_not] at q2
    simp at p2 q2
    exact ⟨⟨p, lt p p2.1, p2.1, by simp [p2.2]⟩, ⟨q, lt q q2.1, q2.1, by simp [q2.2.2, h1 q q2.1]⟩⟩
theorem m_may_b {ho : Nat → Int32} {set stand : Int32} {f : Nat} : ∀ N, zb (m_may ho set stand N) f = true ↔ (zb set f = true ∧ zb stand f = false) ∧ ∀ i, i < N → (¬ ho i &&& stand = 0 ∧ ¬ ho i &&& (stand ^^^ -1) = 0) → zb (ho i) f = true
  | 0 => by
    rw [m_may, z_xn, zb_and, zb_not]
    simp
    intro h _
    exact zb_lt h
  | N + 1 => by
    rw [m_may]
    have ih := m_may_b (ho := ho) (set := set) (stand := stand) (f := f) N
    by_cases h : ¬ ho N &&& stand = 0 ∧ ¬ ho N &&& (stand ^^^ -1) = 0
    · rw [if_pos h, zb_and, Bool.and_eq_true, ih]
      constructor
      · rintro ⟨⟨a, b⟩, c⟩
        refine ⟨a, fun i hi hb => ?_⟩
        by_cases e : i = N
        · rw [e]; exact c
        · exact b i (by omega) hb
      · rintro ⟨a, b⟩
        exact ⟨⟨a, fun i hi hb => b i (by omega) hb⟩, b N (by omega) h⟩
    · rw [if_neg h, ih]
      constructor
      · rintro ⟨a, b⟩
        refine ⟨a, fun i hi hb => ?_⟩
        by_cases e : i = N
        · rw [e] at hb; exact absurd hb h
        · exact b i (by omega) hb
      · rintro ⟨a, b⟩
        exact ⟨a, fun i hi hb => b i (by omega) hb⟩
theorem m_may_op {ho : Nat → Int32} {set stand : Int32} {F N f : Nat} (h1 : ∀ i, i < N → ∀ f, zb (ho i) f = true → zb set f = true) (h2 : ∀ f, F ≤ f → zb set f = false) : zb (m_may ho set stand N) f = true ↔ s_op F (s_B N ho) (s_u set stand) f := by
  rw [m_may_b]
  unfold s_op
  constructor
  · rintro ⟨⟨a, b⟩, c⟩
    refine ⟨by simp [s_u, a, b], fun d hd hb => ?_⟩
    obtain ⟨i, hi, rfl⟩ := s_B_mem.mp hd
    exact c i hi ((s_bd_h (h1 i hi) h2).mp hb)
  · rintro ⟨a, b⟩
    simp [s_u] at a
    exact ⟨⟨a.2, a.1⟩, fun i hi hb => b _ (s_B_mem.mpr ⟨i, hi, rfl⟩) ((s_bd_h (h1 i hi) h2).mpr hb)⟩
theorem s_sub_b {q s : Nat} (hq : q < 2 ^ 16) (hs : s < 2 ^ 16) : q &&& s = q ↔ ∀ i, zb (nI q) i = true → zb (nI s) i = true := by
  rw [← nI_sb (by omega) (by omega), zb_sub']
theorem z_bit1 {t f : Nat} (ht : t < 2 ^ 16) (hf : f < 16) : nI t ||| 1 <<< (nI f &&& 31) = nI (t ||| 2 ^ f) ∧ t ||| 2 ^ f < 2 ^ 16 ∧ ∀ g, zb (nI (t ||| 2 ^ f)) g = (zb (nI t) g || decide (g = f)) := by
  have h2 : 2 ^ f < 2 ^ 16 := Nat.pow_lt_pow_right (by omega) hf
  have e1 : nI t ||| 1 <<< (nI f &&& 31) = nI (t ||| 2 ^ f) := by rw [z_shl1 (by omega), nI_or (by omega) (by omega)]
  exact ⟨e1, Nat.or_lt_two_pow ht h2, fun g => by rw [← e1, zb_or, zb_sh1 (by omega)]⟩
theorem s_u_add {s t f : Nat} (ht : t < 2 ^ 16) (hf : f < 16) : s_u (nI s) (nI (t ||| 2 ^ f)) = s_add (s_u (nI s) (nI t)) f := by
  funext g
  unfold s_u s_add
  rw [(z_bit1 ht hf).2.2 g]
  by_cases e : g = f
  · simp [e]
  · simp [e]
theorem s_u_ne {F s t : Nat} (hF : F ≤ 16) (hs : s < 2 ^ F) (ht : t &&& s = t) (h : t ≠ s) : s_n (s_u (nI s) (nI t)) F ≠ 0 := by
  have h16 := z_powF hF
  have h3 : t ≤ s := by rw [← ht]; exact Nat.and_le_right
  have h4 := (s_sub_b (q := t) (s := s) (by omega) (by omega)).mp ht
  refine s_n_pos (Classical.byContradiction (fun q => h ((nI_eq (by omega) (by omega)).mp (zb_ext (fun i hi => ?_)))))
  cases e : zb (nI s) i with
  | false =>
    cases e' : zb (nI t) i with
    | false => rfl
    | true => have := h4 i e'; rw [e] at this; cases this
  | true =>
    cases e' : zb (nI t) i with
    | true => rfl
    | false =>
      refine absurd ⟨i, ?_, by simp [s_u, e, e']⟩ q
      rcases Nat.lt_or_ge i F with z | z
      · exact z
      · rw [zb_of hF hs z] at e; cases e
theorem s_u_all {F s : Nat} : s_n (s_u (nI s) (nI s)) F = 0 := by
  have : ∀ n, s_n (s_u (nI s) (nI s)) n = 0 := fun n => by
    induction n with
    | zero => rfl
    | succ n ih => rw [s_n, ih, if_pos (by simp [s_u])]
  exact this F
section SER3
variable {l : Launch} {n : Nat} {K L : Nat → Nat} {I : Nat → Nat → Int32} {J : Nat → Nat → Int64} {G : Nat → Nat → Value} {c F N s : Nat} {tr : Nat → (Int32 → Int32) → Int32}
/-- the rows that end a set of the model -/
noncomputable abbrev mV (ho : Nat → Int32) (F N s t : Nat) : Nat := s_V F (s_B N ho) (s_u (nI s) (nI t))
noncomputable abbrev mG (ho : Nat → Int32) (F N s t : Nat) : Nat → Nat := s_g F (s_B N ho) (s_u (nI s) (nI t))
/-- a find more -/
theorem s_next {t f : Nat} (hF16 : F ≤ 16) (hs : s < 2 ^ F) (ht : t &&& s = t) (hf : f < F) (h1 : zb (nI s) f = true) (h2 : zb (nI t) f = false) : (t ||| 2 ^ f) &&& s = t ||| 2 ^ f ∧ t < t ||| 2 ^ f ∧ t < 2 ^ 16 := by
  have h16 := z_powF hF16
  have h3 : t ≤ s := by rw [← ht]; exact Nat.and_le_right
  have ho := z_bit1 (t := t) (f := f) (by omega) (by omega)
  have h4 := (s_sub_b (q := t) (s := s) (by omega) (by omega)).mp ht
  refine ⟨(s_sub_b ho.2.1 (by omega)).mpr (fun i hi => ?_), ?_, by omega⟩
  · rw [ho.2.2 i] at hi
    simp at hi
    rcases hi with q | q
    · exact h4 i q
    · rw [q]; exact h1
  · refine Nat.lt_of_le_of_ne Nat.left_le_or (fun e => ?_)
    have := ho.2.2 f
    rw [← e, h2] at this
    simp at this
theorem c226_in {X : zX} (hS : SS K L G) (hj : X.2.1 = 226) (hF : I 71 1 = nI F) (hF16 : F ≤ 16) (hs : s < 2 ^ F) {t : Nat} (ht : t &&& s = t) (hh : ∀ i, i < N → ∀ f, zb (I 94 i) f = true → zb (nI s) f = true) (hJ : ∀ q, q &&& s = q → t < q → J 93 q = lN (mV (I 94) F N s q))
    (kk : zV X 72 [some (.ref 71), some (.int (nI s)), some (.int (nI t)), some (.long (lN (s_sum (mG (I 94) F N s t) F))), none, some (.int (m_may (I 94) (nI s) (nI t) N)), none] [] (n, K, L, I, J, G) 0 0) : ∀ k f : Nat, f + k = F → zV X 32 [some (.ref 71), some (.int (nI s)), some (.int (nI t)), some (.long (lN (s_sum (mG (I 94) F N s t) f))), none, some (.int (m_may (I 94) (nI s) (nI t) N)), some (.int (nI f))] [] (n, K, L, I, J, G) 0 0
  | 0, f, hk => by
    have e : f = F := by omega
    subst e
    refine zW_ok hj B226_32 32 _ _ _ _ _ b226_32 ?_
    simp only [B226_32, zW, z_wp1, z_ld, z_f0, z_f1, z_f2, z_f3, List.getElem?_cons_zero, List.getElem?_cons_succ, true_and, and_true, Int32.reduceOfInt, z_i10, z_i01, Int32.reduceLT, Int32.reduceLE, Int32.reduceAdd, Int32.reduceSub, z_set, z_set2, z_kil, List.set_cons_zero, List.set_cons_succ, List.take_succ_cons, List.take_zero, List.drop_succ_cons, List.drop_zero, List.reverse_cons, List.reverse_nil, List.nil_append, List.cons_append, List.getD_cons_succ, List.getD_cons_zero, List.getD_nil, List.length_cons, List.length_nil, List.map_cons, List.map_nil, List.sum_cons, List.sum_nil, Nat.reduceAdd, Nat.reduceLeDiff, Value.category, Option.toList, true_or, or_true, z_ua, ↓reduceIte, Nat.reduceEqDiff, eq_self, not_true_eq_false, not_false_eq_true, false_implies, true_implies, Classical.not_not, Nat.le_refl, Nat.zero_le, sK71 hS, hF]
    try dsimp only
    exact ⟨fun _ => kk.weak (by simp only [z_le]; simp), fun q => absurd (nI_le (Nat.le_refl _) (by omega)) q⟩
  | k + 1, f, hk => by
    have hb := m_may_op (ho := I 94) (set := nI s) (stand := nI t) (F := F) (N := N) (f := f) hh (fun i hi => zb_of hF16 hs hi)
    have ih := c226_in hS hj hF hF16 hs ht hh hJ kk k (f + 1) (by omega)
    have go : zV X 66 [some (.ref 71), some (.int (nI s)), some (.int (nI t)), some (.long (lN (s_sum (mG (I 94) F N s t) (f + 1)))), none, some (.int (m_may (I 94) (nI s) (nI t) N)), some (.int (nI f))] [] (n, K, L, I, J, G) 0 0 := by
      refine zW_ok hj B226_66 66 _ _ _ _ _ b226_66 ?_
      simp only [B226_66, zW, z_wp1, z_ld, z_f0, z_f1, z_f2, z_f3, List.getElem?_cons_zero, List.getElem?_cons_succ, true_and, and_true, Int32.reduceOfInt, z_i10, z_i01, Int32.reduceLT, Int32.reduceLE, Int32.reduceAdd, Int32.reduceSub, z_set, z_set2, z_kil, List.set_cons_zero, List.set_cons_succ, List.take_succ_cons, List.take_zero, List.drop_succ_cons, List.drop_zero, List.reverse_cons, List.reverse_nil, List.nil_append, List.cons_append, List.getD_cons_succ, List.getD_cons_zero, List.getD_nil, List.length_cons, List.length_nil, List.map_cons, List.map_nil, List.sum_cons, List.sum_nil, Nat.reduceAdd, Nat.reduceLeDiff, Value.category, Option.toList, true_or, or_true, z_ua, ↓reduceIte, Nat.reduceEqDiff, eq_self, not_true_eq_false, not_false_eq_true, false_implies, true_implies, Classical.not_not, Nat.le_refl, Nat.zero_le, nI_1]
      try dsimp only
      exact ih
    by_cases ho : s_op F (s_B N (I 94)) (s_u (nI s) (nI t)) f
    · have hm := (hb.mpr ho)
      have h3 := (m_may_b N).mp hm
      obtain ⟨n1, n2, n3⟩ := s_next hF16 hs ht (show f < F by omega) h3.1.1 h3.1.2
      obtain ⟨o1, o2, o3⟩ := z_bit1 (t := t) (f := f) n3 (by omega)
      have e2 : (nI (t ||| 2 ^ f)).toNatClampNeg = t ||| 2 ^ f := nI_clamp (by omega)
      have v2 : vp_in (nI (t ||| 2 ^ f)) 65536 := vp_in_nI (by omega) (by omega)
      have e3 : s_sum (mG (I 94) F N s t) f + mV (I 94) F N s (t ||| 2 ^ f) = s_sum (mG (I 94) F N s t) (f + 1) := by
        rw [s_sum, mG, s_g_y ho, mV, s_u_add n3 (by omega)]
      refine zW_ok hj B226_32 32 _ _ _ _ _ b226_32 ?_
      simp only [B226_32, zW, z_wp1, z_ld, z_f0, z_f1, z_f2, z_f3, List.getElem?_cons_zero, List.getElem?_cons_succ, true_and, and_true, Int32.reduceOfInt, z_i10, z_i01, Int32.reduceLT, Int32.reduceLE, Int32.reduceAdd, Int32.reduceSub, z_set, z_set2, z_kil, List.set_cons_zero, List.set_cons_succ, List.take_succ_cons, List.take_zero, List.drop_succ_cons, List.drop_zero, List.reverse_cons, List.reverse_nil, List.nil_append, List.cons_append, List.getD_cons_succ, List.getD_cons_zero, List.getD_nil, List.length_cons, List.length_nil, List.map_cons, List.map_nil, List.sum_cons, List.sum_nil, Nat.reduceAdd, Nat.reduceLeDiff, Value.category, Option.toList, true_or, or_true, z_ua, ↓reduceIte, Nat.reduceEqDiff, eq_self, not_true_eq_false, not_false_eq_true, false_implies, true_implies, Classical.not_not, Nat.le_refl, Nat.zero_le, sK71 hS, hF, (zb_get1 (s := m_may (I 94) (nI s) (nI t) N) (show f < 32 by omega)).mpr hm, sG71_47 hS, sK93 hS, sL93 hS, o1, e2, v2, hJ _ n1 n2, lN_add, e3]
      try dsimp only
      exact ⟨fun q => absurd q (nI_ge (by omega) (by omega)), fun _ => go⟩
    · have hm : ¬ zb (m_may (I 94) (nI s) (nI t) N) f = true := fun q => ho (hb.mp q)
      have e3 : s_sum (mG (I 94) F N s t) (f + 1) = s_sum (mG (I 94) F N s t) f := by rw [s_sum, mG, s_g_n ho]; rfl
      rw [e3] at go
      refine zW_ok hj B226_32 32 _ _ _ _ _ b226_32 ?_
      simp only [B226_32, zW, z_wp1, z_ld, z_f0, z_f1, z_f2, z_f3, List.getElem?_cons_zero, List.getElem?_cons_succ, true_and, and_true, Int32.reduceOfInt, z_i10, z_i01, Int32.reduceLT, Int32.reduceLE, Int32.reduceAdd, Int32.reduceSub, z_set, z_set2, z_kil, List.set_cons_zero, List.set_cons_succ, List.take_succ_cons, List.take_zero, List.drop_succ_cons, List.drop_zero, List.reverse_cons, List.reverse_nil, List.nil_append, List.cons_append, List.getD_cons_succ, List.getD_cons_zero, List.getD_nil, List.length_cons, List.length_nil, List.map_cons, List.map_nil, List.sum_cons, List.sum_nil, Nat.reduceAdd, Nat.reduceLeDiff, Value.category, Option.toList, true_or, or_true, z_ua, ↓reduceIte, Nat.reduceEqDiff, eq_self, not_true_eq_false, not_false_eq_true, false_implies, true_implies, Classical.not_not, Nat.le_refl, Nat.zero_le, sK71 hS, hF]
      try dsimp only
      exact ⟨fun q => absurd q (nI_ge (by omega) (by omega)), fun _ => ⟨fun _ => go, fun q => absurd ((zb_get1 (show f < 32 by omega)).mp q) hm⟩⟩
theorem c226_out {X : zX} (hS : SS K L G) (hj : X.2.1 = 226) (hd : X.2.2.1 = 1) (hm : X.2.2.2.1 = 0) (hsl : X.2.2.2.2.1 = 0) (hF : I 71 1 = nI F) (hF16 : F ≤ 16) (hN : I 71 17 = nI N) (hN12 : N ≤ 12) (hs : s < 2 ^ F) (hh : ∀ i, i < N → ∀ f, zb (I 94 i) f = true → zb (nI s) f = true) (hQ : ∀ r h', (r = none ∧ ∃ J', h' = (n, K, L, I, J', G) ∧ (∀ q, q ≠ 93 → J' q = J q) ∧ ∀ t, t &&& s = t → J' 93 t = lN (mV (I 94) F N s t)) → X.2.2.2.2.2.2 r h') : ∀ (k t : Nat) (J' : Nat → Nat → Int64), t ≤ k → t &&& s = t → (∀ q, q ≠ 93 → J' q = J q) → (∀ q, q &&& s = q → t ≤ q → J' 93 q = lN (mV (I 94) F N s q)) →
      zV X 9 [some (.ref 71), some (.int (nI s)), some (.int (nI t)), none, none, none, none] [] (n, K, L, I, J', G) 0 0 := by
  have h16 := z_powF hF16
  intro k
  induction k with
  | zero =>
    intro t J' hk ht hf hg
    have e : t = 0 := by omega
    subst e
    refine zW_ok hj B226_9 9 _ _ _ _ _ b226_9 ?_
    simp only [B226_9, zW, z_wp1, z_ld, z_f0, z_f1, z_f2, z_f3, List.getElem?_cons_zero, List.getElem?_cons_succ, true_and, and_true, Int32.reduceOfInt, z_i10, z_i01, Int32.reduceLT, Int32.reduceLE, Int32.reduceAdd, Int32.reduceSub, z_set, z_set2, z_kil, List.set_cons_zero, List.set_cons_succ, List.take_succ_cons, List.take_zero, List.drop_succ_cons, List.drop_zero, List.reverse_cons, List.reverse_nil, List.nil_append, List.cons_append, List.getD_cons_succ, List.getD_cons_zero, List.getD_nil, List.length_cons, List.length_nil, List.map_cons, List.map_nil, List.sum_cons, List.sum_nil, Nat.reduceAdd, Nat.reduceLeDiff, Value.category, Option.toList, true_or, or_true, z_ua, ↓reduceIte, Nat.reduceEqDiff, eq_self, not_true_eq_false, not_false_eq_true, false_implies, true_implies, Classical.not_not, Nat.le_refl, Nat.zero_le, nI_0]
    try dsimp only
    refine zW_ok hj B226_82 82 _ _ _ _ _ b226_82 ?_
    simp only [B226_82, zW, z_wp1, z_ld, z_f0, z_f1, z_f2, z_f3, List.getElem?_cons_zero, List.getElem?_cons_succ, true_and, and_true, Int32.reduceOfInt, z_i10, z_i01, Int32.reduceLT, Int32.reduceLE, Int32.reduceAdd, Int32.reduceSub, z_set, z_set2, z_kil, List.set_cons_zero, List.set_cons_succ, List.take_succ_cons, List.take_zero, List.drop_succ_cons, List.drop_zero, List.reverse_cons, List.reverse_nil, List.nil_append, List.cons_append, List.getD_cons_succ, List.getD_cons_zero, List.getD_nil, List.length_cons, List.length_nil, List.map_cons, List.map_nil, List.sum_cons, List.sum_nil, Nat.reduceAdd, Nat.reduceLeDiff, Value.category, Option.toList, true_or, or_true, z_ua, ↓reduceIte, Nat.reduceEqDiff, eq_self, not_true_eq_false, not_false_eq_true, false_implies, true_implies, Classical.not_not, Nat.le_refl, Nat.zero_le]
    try dsimp only
    exact hQ _ _ ⟨rfl, J', rfl, hf, fun t a => hg t a (Nat.zero_le _)⟩
  | succ k ih =>
    intro t J' hk ht hf hg
    by_cases e : t = 0
    · subst e
      refine zW_ok hj B226_9 9 _ _ _ _ _ b226_9 ?_
      simp only [B226_9, zW, z_wp1, z_ld, z_f0, z_f1, z_f2, z_f3, List.getElem?_cons_zero, List.getElem?_cons_succ, true_and, and_true, Int32.reduceOfInt, z_i10, z_i01, Int32.reduceLT, Int32.reduceLE, Int32.reduceAdd, Int32.reduceSub, z_set, z_set2, z_kil, List.set_cons_zero, List.set_cons_succ, List.take_succ_cons, List.take_zero, List.drop_succ_cons, List.drop_zero, List.reverse_cons, List.reverse_nil, List.nil_append, List.cons_append, List.getD_cons_succ, List.getD_cons_zero, List.getD_nil, List.length_cons, List.length_nil, List.map_cons, List.map_nil, List.sum_cons, List.sum_nil, Nat.reduceAdd, Nat.reduceLeDiff, Value.category, Option.toList, true_or, or_true, z_ua, ↓reduceIte, Nat.reduceEqDiff, eq_self, not_true_eq_false, not_false_eq_true, false_implies, true_implies, Classical.not_not, Nat.le_refl, Nat.zero_le, nI_0]
      try dsimp only
      refine zW_ok hj B226_82 82 _ _ _ _ _ b226_82 ?_
      simp only [B226_82, zW, z_wp1, z_ld, z_f0, z_f1, z_f2, z_f3, List.getElem?_cons_zero, List.getElem?_cons_succ, true_and, and_true, Int32.reduceOfInt, z_i10, z_i01, Int32.reduceLT, Int32.reduceLE, Int32.reduceAdd, Int32.reduceSub, z_set, z_set2, z_kil, List.set_cons_zero, List.set_cons_succ, List.take_succ_cons, List.take_zero, List.drop_succ_cons, List.drop_zero, List.reverse_cons, List.reverse_nil, List.nil_append, List.cons_append, List.getD_cons_succ, List.getD_cons_zero, List.getD_nil, List.length_cons, List.length_nil, List.map_cons, List.map_nil, List.sum_cons, List.sum_nil, Nat.reduceAdd, Nat.reduceLeDiff, Value.category, Option.toList, true_or, or_true, z_ua, ↓reduceIte, Nat.reduceEqDiff, eq_self, not_true_eq_false, not_false_eq_true, false_implies, true_implies, Classical.not_not, Nat.le_refl, Nat.zero_le]
      try dsimp only
      exact hQ _ _ ⟨rfl, J', rfl, hf, fun t a => hg t a (Nat.zero_le _)⟩
    · have hts : t ≤ s := by rw [← ht]; exact Nat.and_le_right
      have e1 : nI t - 1 &&& nI s = nI ((t - 1) &&& s) := by
        rw [show nI t - 1 = nI (t - 1) from by rw [← nI_pred (t - 1), show t - 1 + 1 = t by omega], nI_and (by omega) (by omega)]
      have hlt : (t - 1) &&& s < t := Nat.lt_of_le_of_lt Nat.and_le_left (by omega)
      have hts' : ((t - 1) &&& s) &&& s = (t - 1) &&& s := by rw [Nat.and_assoc, Nat.and_self]
      have ne : ¬ nI t = 0 := nI_ne0 (by omega) (by omega)
      have e2 : (nI ((t - 1) &&& s)).toNatClampNeg = (t - 1) &&& s := nI_clamp (by omega)
      have v2 : vp_in (nI ((t - 1) &&& s)) 65536 := vp_in_nI (by omega) (by omega)
      refine zW_ok hj B226_9 9 _ _ _ _ _ b226_9 ?_
      simp only [B226_9, zW, z_wp1, z_ld, z_f0, z_f1, z_f2, z_f3, List.getElem?_cons_zero, List.getElem?_cons_succ, true_and, and_true, Int32.reduceOfInt, z_i10, z_i01, Int32.reduceLT, Int32.reduceLE, Int32.reduceAdd, Int32.reduceSub, z_set, z_set2, z_kil, List.set_cons_zero, List.set_cons_succ, List.take_succ_cons, List.take_zero, List.drop_succ_cons, List.drop_zero, List.reverse_cons, List.reverse_nil, List.nil_append, List.cons_append, List.getD_cons_succ, List.getD_cons_zero, List.getD_nil, List.length_cons, List.length_nil, List.map_cons, List.map_nil, List.sum_cons, List.sum_nil, Nat.reduceAdd, Nat.reduceLeDiff, Value.category, Option.toList, true_or, or_true, z_ua, ↓reduceIte, Nat.reduceEqDiff, eq_self, not_true_eq_false, not_false_eq_true, false_implies, true_implies, Classical.not_not, Nat.le_refl, Nat.zero_le, sK71 hS, ne, e1]
      try dsimp only
      refine z_callD (c225 (I := I) (J := J') hS hN hN12 (nI s) (nI ((t - 1) &&& s))) (by omega) (by omega) (by omega) (Nat.le_of_ble_eq_true rfl) ?_
      try simp only [zW, z_wp1, z_ld, z_f0, z_f1, z_f2, z_f3, List.getElem?_cons_zero, List.getElem?_cons_succ, true_and, and_true, Int32.reduceOfInt, z_i10, z_i01, Int32.reduceLT, Int32.reduceLE, Int32.reduceAdd, Int32.reduceSub, z_set, z_set2, z_kil, List.set_cons_zero, List.set_cons_succ, List.take_succ_cons, List.take_zero, List.drop_succ_cons, List.drop_zero, List.reverse_cons, List.reverse_nil, List.nil_append, List.cons_append, List.getD_cons_succ, List.getD_cons_zero, List.getD_nil, List.length_cons, List.length_nil, List.map_cons, List.map_nil, List.sum_cons, List.sum_nil, Nat.reduceAdd, Nat.reduceLeDiff, Value.category, Option.toList, true_or, or_true, z_ua, ↓reduceIte, Nat.reduceEqDiff, eq_self, not_true_eq_false, not_false_eq_true, false_implies, true_implies, Classical.not_not, Nat.le_refl, Nat.zero_le, sK71 hS]
      try dsimp only
      refine (c226_in (N := N) hS hj hF hF16 hs hts' hh (fun q hq hl => hg q hq ?_) ?_ F 0 (by omega)).weak (by simp only [z_le, nI_0, s_sum, lN_0]; simp)
      · rcases Nat.lt_or_ge q t with z | z
        · have := z_sub_dn t s q ht hq z
          omega
        · exact z
      · refine zW_ok hj B226_72 72 _ _ _ _ _ b226_72 ?_
        simp only [B226_72, zW, z_wp1, z_ld, z_f0, z_f1, z_f2, z_f3, List.getElem?_cons_zero, List.getElem?_cons_succ, true_and, and_true, Int32.reduceOfInt, z_i10, z_i01, Int32.reduceLT, Int32.reduceLE, Int32.reduceAdd, Int32.reduceSub, z_set, z_set2, z_kil, List.set_cons_zero, List.set_cons_succ, List.take_succ_cons, List.take_zero, List.drop_succ_cons, List.drop_zero, List.reverse_cons, List.reverse_nil, List.nil_append, List.cons_append, List.getD_cons_succ, List.getD_cons_zero, List.getD_nil, List.length_cons, List.length_nil, List.map_cons, List.map_nil, List.sum_cons, List.sum_nil, Nat.reduceAdd, Nat.reduceLeDiff, Value.category, Option.toList, true_or, or_true, z_ua, ↓reduceIte, Nat.reduceEqDiff, eq_self, not_true_eq_false, not_false_eq_true, false_implies, true_implies, Classical.not_not, Nat.le_refl, Nat.zero_le, sK71 hS, sG71_47 hS, sK93 hS, sL93 hS, e2, v2, z_hJ]
        try dsimp only
        refine (ih ((t - 1) &&& s) _ (by omega) hts' (fun q hq => by rw [z_u_ne hq]; exact hf q hq) (fun q hq hl => ?_)).weak (by simp only [z_le]; simp)
        rw [z_u_at]
        by_cases e3 : q = (t - 1) &&& s
        · rw [if_pos e3, e3, mV, s_V_g (s_u_ne hF16 hs hts' (by omega))]
        · rw [if_neg e3]
          refine hg q hq ?_
          rcases Nat.lt_or_ge q t with z | z
          · have := z_sub_dn t s q ht hq z
            omega
          · exact z
/-- findOrders -/
theorem c226 (hS : SS K L G) (hF : I 71 1 = nI F) (hF16 : F ≤ 16) (hN : I 71 17 = nI N) (hN12 : N ≤ 12) (hs16 : s < 2 ^ F) (hh : ∀ i, i < N → ∀ f, zb (I 94 i) f = true → zb (nI s) f = true) : z_Ctr l 1 226 [.ref 71, .int (nI s)] (n, K, L, I, J, G) 0 0 (fun r h' => r = none ∧ ∃ J', h' = (n, K, L, I, J', G) ∧ (∀ q, q ≠ 93 → J' q = J q) ∧ ∀ t, t &&& s = t → J' 93 t = lN (mV (I 94) F N s t)) := by
  have h16 := z_powF hF16
  have e2 : (nI s).toNatClampNeg = s := nI_clamp (by omega)
  have v2 : vp_in (nI s) 65536 := vp_in_nI (by omega) (by omega)
  refine z_ctr (by decide) (by decide +kernel) (Nat.le_of_ble_eq_true rfl) (by decide +kernel) (fun X hl hj hd hm hs hsc hQ => ?_)
  show zV X 0 [some (.ref 71), some (.int (nI s)), none, none, none, none, none] [] _ 0 0
  refine zW_ok hj B226_0 0 _ _ _ _ _ b226_0 ?_
  simp only [B226_0, zW, z_wp1, z_ld, z_f0, z_f1, z_f2, z_f3, List.getElem?_cons_zero, List.getElem?_cons_succ, true_and, and_true, Int32.reduceOfInt, z_i10, z_i01, Int32.reduceLT, Int32.reduceLE, Int32.reduceAdd, Int32.reduceSub, z_set, z_set2, z_kil, List.set_cons_zero, List.set_cons_succ, List.take_succ_cons, List.take_zero, List.drop_succ_cons, List.drop_zero, List.reverse_cons, List.reverse_nil, List.nil_append, List.cons_append, List.getD_cons_succ, List.getD_cons_zero, List.getD_nil, List.length_cons, List.length_nil, List.map_cons, List.map_nil, List.sum_cons, List.sum_nil, Nat.reduceAdd, Nat.reduceLeDiff, Value.category, Option.toList, true_or, or_true, z_ua, ↓reduceIte, Nat.reduceEqDiff, eq_self, not_true_eq_false, not_false_eq_true, false_implies, true_implies, Classical.not_not, Nat.le_refl, Nat.zero_le, sK71 hS, sG71_47 hS, sK93 hS, sL93 hS, e2, v2, z_hJ]
  try dsimp only
  refine c226_out hS hj hd hm hs hF hF16 hN hN12 hs16 hh hQ s s _ (Nat.le_refl _) (Nat.and_self _) (fun q hq => by rw [z_u_ne hq]) (fun q hq hl => ?_)
  have : q ≤ s := by rw [← hq]; exact Nat.and_le_right
  have e : q = s := by omega
  subst e
  rw [z_u_at, if_pos rfl, mV, s_V_0 s_u_all]
  rfl
theorem m_hold_b {row : Nat → Int32} {set : Int32} {i f : Nat} : ∀ {F : Nat}, F ≤ 16 → (zb (m_hold row set i F) f = true ↔ f < F ∧ zb set f = true ∧ row f >>> (nI i &&& 31) &&& 1 = 1)
  | 0, _ => by simp [m_hold, zb_0]
  | F + 1, h => by
    have ih := m_hold_b (row := row) (set := set) (i := i) (f := f) (F := F) (by omega)
    rw [m_hold]
    by_cases hc : set >>> (nI F &&& 31) &&& 1 = 1 ∧ row F >>> (nI i &&& 31) &&& 1 = 1
    · rw [if_pos hc, zb_or, zb_sh1 (by omega), Bool.or_eq_true, ih]
      constructor
      · rintro (⟨a, b⟩ | a)
        · exact ⟨by omega, b⟩
        · have e : f = F := by simpa using a
          subst e
          exact ⟨by omega, (zb_get1 (by omega)).mp hc.1, hc.2⟩
      · rintro ⟨a, b⟩
        by_cases e : f = F
        · right; simp [e]
        · left; exact ⟨by omega, b⟩
    · rw [if_neg hc, ih]
      constructor
      · rintro ⟨a, b⟩
        exact ⟨by omega, b⟩
      · rintro ⟨a, b⟩
        by_cases e : f = F
        · subst e
          exact absurd ⟨(zb_get1 (by omega)).mpr b.1, b.2⟩ hc
        · exact ⟨by omega, b⟩
/-- the holders, of the model's table -/
def mHo (I : Nat → Nat → Int32) (c F N : Nat) (tr : Nat → (Int32 → Int32) → Int32) (mode asked : Int32) (s i : Nat) : Int32 := m_ho (fun g => m_row (mTv I c tr) mode (nI g) N) (nI s) asked F i
theorem mHo_sub {mode asked : Int32} (hF : F ≤ 16) {i f : Nat} (h : zb (mHo I c F N tr mode asked s i) f = true) : zb (nI s) f = true := by
  rw [mHo, m_ho] at h
  by_cases e : asked >>> (nI i &&& 31) &&& 1 = 0
  · rw [if_pos e, zb_0] at h; cases h
  · rw [if_neg e] at h
    exact ((m_hold_b hF).mp h).2.1
/-- findAll -/
theorem c228 (hS : SS K L G) (hst : m_st I c F N tr) (mode asked : Int32) (hs16 : s < 2 ^ F) : z_Ctr l 4 228 [.ref 71, .int mode, .int (nI s), .int asked] (n, K, L, I, J, G) 0 0 (fun r h' => r = none ∧ ∃ I' J', h' = (n, K, L, I', J', G) ∧ mF I I' ∧ (∀ q, q ≠ 93 → J' q = J q) ∧ (∀ i, i < N → I' 94 i = mHo I c F N tr mode asked s i) ∧ ∀ t, t &&& s = t → J' 93 t = lN (mV (mHo I c F N tr mode asked s) F N s t)) := by
  obtain ⟨s1, s2, s3, s4, s5, s6, s7⟩ := id hst
  refine z_ctr (by decide) (by decide +kernel) (Nat.le_of_ble_eq_true rfl) (by decide +kernel) (fun X hl hj hd hm hs hsc hQ => ?_)
  show zV X 0 [some (.ref 71), some (.int mode), some (.int (nI s)), some (.int asked)] [] _ 0 0
  refine zW_ok hj B228_0 0 _ _ _ _ _ b228_0 ?_
  simp only [B228_0, zW, z_wp1, z_ld, z_f0, z_f1, z_f2, z_f3, List.getElem?_cons_zero, List.getElem?_cons_succ, true_and, and_true, Int32.reduceOfInt, z_i10, z_i01, Int32.reduceLT, Int32.reduceLE, Int32.reduceAdd, Int32.reduceSub, z_set, z_set2, z_kil, List.set_cons_zero, List.set_cons_succ, List.take_succ_cons, List.take_zero, List.drop_succ_cons, List.drop_zero, List.reverse_cons, List.reverse_nil, List.nil_append, List.cons_append, List.getD_cons_succ, List.getD_cons_zero, List.getD_nil, List.length_cons, List.length_nil, List.map_cons, List.map_nil, List.sum_cons, List.sum_nil, Nat.reduceAdd, Nat.reduceLeDiff, Value.category, Option.toList, true_or, or_true, z_ua, ↓reduceIte, Nat.reduceEqDiff, eq_self, not_true_eq_false, not_false_eq_true, false_implies, true_implies, Classical.not_not, Nat.le_refl, Nat.zero_le, sK71 hS]
  try dsimp only
  refine z_callQ (c198 (I := I) (J := J) hS hst mode) (by omega) (by omega) (by omega) (Nat.le_of_ble_eq_true rfl) ?_
  rintro r h' ⟨rfl, I1, rfl, o1, r1⟩
  simp only [zW, z_wp1, z_ld, z_f0, z_f1, z_f2, z_f3, List.getElem?_cons_zero, List.getElem?_cons_succ, true_and, and_true, Int32.reduceOfInt, z_i10, z_i01, Int32.reduceLT, Int32.reduceLE, Int32.reduceAdd, Int32.reduceSub, z_set, z_set2, z_kil, List.set_cons_zero, List.set_cons_succ, List.take_succ_cons, List.take_zero, List.drop_succ_cons, List.drop_zero, List.reverse_cons, List.reverse_nil, List.nil_append, List.cons_append, List.getD_cons_succ, List.getD_cons_zero, List.getD_nil, List.length_cons, List.length_nil, List.map_cons, List.map_nil, List.sum_cons, List.sum_nil, Nat.reduceAdd, Nat.reduceLeDiff, Value.category, Option.toList, true_or, or_true, z_ua, ↓reduceIte, Nat.reduceEqDiff, eq_self, not_true_eq_false, not_false_eq_true, false_implies, true_implies, Classical.not_not, Nat.le_refl, Nat.zero_le, sK71 hS]
  try dsimp only
  have e71 : I1 71 = I 71 := o1 71 (by decide) (by decide) (by decide)
  refine z_callQ (c224 (I := I1) (J := J) (F := F) (N := N) hS (nI s) asked (by rw [e71]; exact s3) s4 (by rw [e71]; exact s5) s6) (by omega) (by omega) (by omega) (Nat.le_of_ble_eq_true rfl) ?_
  rintro r h' ⟨rfl, I2, rfl, o2, r2⟩
  simp only [zW, z_wp1, z_ld, z_f0, z_f1, z_f2, z_f3, List.getElem?_cons_zero, List.getElem?_cons_succ, true_and, and_true, Int32.reduceOfInt, z_i10, z_i01, Int32.reduceLT, Int32.reduceLE, Int32.reduceAdd, Int32.reduceSub, z_set, z_set2, z_kil, List.set_cons_zero, List.set_cons_succ, List.take_succ_cons, List.take_zero, List.drop_succ_cons, List.drop_zero, List.reverse_cons, List.reverse_nil, List.nil_append, List.cons_append, List.getD_cons_succ, List.getD_cons_zero, List.getD_nil, List.length_cons, List.length_nil, List.map_cons, List.map_nil, List.sum_cons, List.sum_nil, Nat.reduceAdd, Nat.reduceLeDiff, Value.category, Option.toList, true_or, or_true, z_ua, ↓reduceIte, Nat.reduceEqDiff, eq_self, not_true_eq_false, not_false_eq_true, false_implies, true_implies, Classical.not_not, Nat.le_refl, Nat.zero_le, sK71 hS]
  try dsimp only
  have e71' : I2 71 = I 71 := (o2 71 (by decide)).trans e71
  have eh : ∀ i, i < N → I2 94 i = mHo I c F N tr mode asked s i := fun i hi => by
    rw [r2 i hi, mHo, m_ho, m_ho, m_hold_congr r1]
  refine z_callQ (c226 (I := I2) (J := J) (F := F) (N := N) (s := s) hS (by rw [e71']; exact s3) s4 (by rw [e71']; exact s5) s6 hs16 (fun i hi f hf => mHo_sub s4 (by rw [← eh i hi]; exact hf))) (by omega) (by omega) (by omega) (Nat.le_of_ble_eq_true rfl) ?_
  rintro r h' ⟨rfl, J', rfl, o3, r3⟩
  simp only [zW, z_wp1, z_ld, z_f0, z_f1, z_f2, z_f3, List.getElem?_cons_zero, List.getElem?_cons_succ, true_and, and_true, Int32.reduceOfInt, z_i10, z_i01, Int32.reduceLT, Int32.reduceLE, Int32.reduceAdd, Int32.reduceSub, z_set, z_set2, z_kil, List.set_cons_zero, List.set_cons_succ, List.take_succ_cons, List.take_zero, List.drop_succ_cons, List.drop_zero, List.reverse_cons, List.reverse_nil, List.nil_append, List.cons_append, List.getD_cons_succ, List.getD_cons_zero, List.getD_nil, List.length_cons, List.length_nil, List.map_cons, List.map_nil, List.sum_cons, List.sum_nil, Nat.reduceAdd, Nat.reduceLeDiff, Value.category, Option.toList, true_or, or_true, z_ua, ↓reduceIte, Nat.reduceEqDiff, eq_self, not_true_eq_false, not_false_eq_true, false_implies, true_implies, Classical.not_not, Nat.le_refl, Nat.zero_le, sK71 hS]
  try dsimp only
  refine hQ _ _ ⟨rfl, I2, J', rfl, o1.F.tr ⟨fun q hq => o2 q (by unfold mP at hq; omega), fun k _ => by rw [o2 71 (by decide)]⟩, o3, eh, fun t ht => ?_⟩
  rw [r3 t ht, mV, mV, s_B_congr eh]
end SER3
