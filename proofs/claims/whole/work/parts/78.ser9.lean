/-! Rows of finds of the class: the finds of a set, blocks and mates -/
/-- the marks' finds by places -/
def x_ha (row : Nat → Int32) (fs : Nat → Nat) (i : Nat) : Nat → Int32
  | 0 => 0
  | p + 1 => x_ha row fs i p ||| (row (fs p) >>> (nI i &&& 31) &&& 1) <<< (nI p &&& 31)
theorem x_ha_b {row : Nat → Int32} {fs : Nat → Nat} {i : Nat} (hi : i < 32) {q : Nat} : ∀ {n : Nat}, n ≤ 16 → (zb (x_ha row fs i n) q = true ↔ q < n ∧ zb (row (fs q)) i = true)
  | 0, _ => by simp [x_ha, zb_0]
  | n + 1, h => by
    have ih := x_ha_b (row := row) (fs := fs) hi (q := q) (n := n) (by omega)
    rw [x_ha, zb_or, zb_get _ hi, Bool.or_eq_true, ih]
    by_cases e : zb (row (fs n)) i = true
    · rw [if_pos e, zb_sh1 (by omega)]
      constructor
      · rintro (⟨a, b⟩ | a)
        · exact ⟨by omega, b⟩
        · have : q = n := by simpa using a
          subst this
          exact ⟨by omega, e⟩
      · rintro ⟨a, b⟩
        by_cases e2 : q = n
        · right; simp [e2]
        · left; exact ⟨by omega, b⟩
    · rw [if_neg e, zb_shln _ (by omega), zb_0]
      constructor
      · rintro (⟨a, b⟩ | a)
        · exact ⟨by omega, b⟩
        · simp at a
      · rintro ⟨a, b⟩
        by_cases e2 : q = n
        · subst e2; exact absurd b e
        · left; exact ⟨by omega, b⟩
def x_bk (row : Nat → Int32) (fs : Nat → Nat) (cn : Nat) (marks : Int32) (i : Nat) : Int32 := if marks &&& 1 <<< (nI i &&& 31) = 0 then 0 else x_ha row fs i cn
theorem x_bk_b {row : Nat → Int32} {fs : Nat → Nat} {i cn : Nat} {marks : Int32} (hi : i < 32) {q : Nat} (hc : cn ≤ 16) : zb (x_bk row fs cn marks i) q = true ↔ zb marks i = true ∧ q < cn ∧ zb (row (fs q)) i = true := by
  rw [x_bk]
  by_cases h : marks &&& 1 <<< (nI i &&& 31) = 0
  · have h2 := (zb_tst hi).mp h
    rw [if_pos h, zb_0, h2]
    simp
  · have h2 : zb marks i = true := by
      cases e : zb marks i with
      | true => rfl
      | false => exact absurd ((zb_tst hi).mpr e) h
    rw [if_neg h, x_ha_b hi hc, h2]
    simp
/-- mates by bits -/
def s_mx (bl : Nat → Int32) (p : Nat) (all : Int32) : Nat → Int32
  | 0 => all
  | b + 1 => s_mx bl p all b &&& (if bl b >>> (nI p &&& 31) &&& 1 = 0 then bl b ^^^ -1 else bl b)
theorem s_mx_b {bl : Nat → Int32} {p q : Nat} {all : Int32} (hp : p < 32) (hq : q < 32) : ∀ {m : Nat}, zb (s_mx bl p all m) q = true ↔ zb all q = true ∧ ∀ b, b < m → zb (bl b) p = zb (bl b) q
  | 0 => by simp [s_mx]
  | m + 1 => by
    have ih := s_mx_b (bl := bl) (all := all) hp hq (m := m)
    have e : zb (if bl m >>> (nI p &&& 31) &&& 1 = 0 then bl m ^^^ -1 else bl m) q = true ↔ zb (bl m) p = zb (bl m) q := by
      by_cases h : bl m >>> (nI p &&& 31) &&& 1 = 0
      · rw [if_pos h, z_xn, zb_not, (zb_get0 hp).mp h]
        cases zb (bl m) q <;> simp [hq]
      · have h2 : zb (bl m) p = true := by
          cases e : zb (bl m) p with
          | true => rfl
          | false => exact absurd ((zb_get0 hp).mpr e) h
        rw [if_neg h, h2]
        cases zb (bl m) q <;> simp
    rw [s_mx, zb_and, Bool.and_eq_true, ih, e]
    constructor
    · rintro ⟨⟨a, b⟩, c⟩
      refine ⟨a, fun k hk => ?_⟩
      by_cases z : k = m
      · rw [z]; exact c
      · exact b k (by omega)
    · rintro ⟨a, b⟩
      exact ⟨⟨a, fun k hk => b k (by omega)⟩, b m (by omega)⟩
theorem s_rk_one {b : Nat → Bool} {n p q : Nat} (h : s_rk b n ≤ 1) (hp : p < n) (hq : q < n) (h1 : b p = true) (h2 : b q = true) : p = q := by
  rcases Nat.lt_trichotomy p q with z | z | z
  · have := s_rk_lt z h1
    have := s_rk_lt hq h2
    omega
  · exact z
  · have := s_rk_lt z h2
    have := s_rk_lt hp h1
    omega
theorem s_rk_full : ∀ n, s_rk (fun _ => true) n = n
  | 0 => rfl
  | n + 1 => by rw [s_rk, s_rk_full n]; rfl
theorem s_rk_all {b : Nat → Bool} {n p : Nat} (h : n ≤ s_rk b n) (hp : p < n) : b p = true := by
  cases e : b p with
  | true => rfl
  | false =>
    have := s_rk_sub (b := fun _ => true) (b' := b) (p := p) (n := n) (fun _ _ _ => rfl) hp rfl e
    rw [s_rk_full] at this
    omega
section SER9
variable {l : Launch} {n : Nat} {K L : Nat → Nat} {I : Nat → Nat → Int32} {J : Nat → Nat → Int64} {G : Nat → Nat → Value} {cn bc a M : Nat} {fs : Nat → Nat}
theorem c158_loop {X : zX} (hj : X.2.1 = 158) {set : Int32} (hK : K a = 13) (hL : L a = M) (hM : s_rk (zb set) 16 ≤ M) (hM2 : M ≤ 16) (hQ : ∀ r h', (r = some (.int (nI (s_rk (zb set) 16))) ∧ ∃ I', h' = (n, K, L, I', J, G) ∧ (∀ q, q ≠ a → I' q = I q) ∧ ∀ f, f < 16 → zb set f = true → I' a (s_rk (zb set) f) = nI f) → X.2.2.2.2.2.2 r h') : ∀ (k f : Nat) (I' : Nat → Nat → Int32), f + k = 16 → (∀ q, q ≠ a → I' q = I q) → (∀ g, g < f → zb set g = true → I' a (s_rk (zb set) g) = nI g) → zV X 4 [some (.int set), some (.ref a), some (.int (nI (s_rk (zb set) f))), some (.int (nI f))] [] (n, K, L, I', J, G) 0 0 := by
  have fin : ∀ (f : Nat) (I' : Nat → Nat → Int32), f ≤ 16 → (f = 16 ∨ M ≤ s_rk (zb set) f) → (∀ q, q ≠ a → I' q = I q) → (∀ g, g < f → zb set g = true → I' a (s_rk (zb set) g) = nI g) → zV X 37 [some (.int set), some (.ref a), some (.int (nI (s_rk (zb set) f))), some (.int (nI f))] [] (n, K, L, I', J, G) 0 0 := by
    intro f I' hf h ho hg
    have hm := s_rk_mono (s := zb set) hf
    have e : s_rk (zb set) f = s_rk (zb set) 16 := by
      rcases h with h | h
      · rw [h]
      · omega
    refine zW_ok hj B158_37 37 _ _ _ _ _ b158_37 ?_
    simp only [B158_37, zW, z_wp1, z_ld, z_f0, z_f1, z_f2, z_f3, List.getElem?_cons_zero, List.getElem?_cons_succ, true_and, and_true, Int32.reduceOfInt, z_i10, z_i01, Int32.reduceLT, Int32.reduceLE, Int32.reduceAdd, Int32.reduceSub, z_set, z_set2, z_kil, List.set_cons_zero, List.set_cons_succ, List.take_succ_cons, List.take_zero, List.drop_succ_cons, List.drop_zero, List.reverse_cons, List.reverse_nil, List.nil_append, List.cons_append, List.getD_cons_succ, List.getD_cons_zero, List.getD_nil, List.length_cons, List.length_nil, List.map_cons, List.map_nil, List.sum_cons, List.sum_nil, Nat.reduceAdd, Nat.reduceLeDiff, Value.category, Option.toList, true_or, or_true, z_ua, ↓reduceIte, Nat.reduceEqDiff, eq_self, not_true_eq_false, not_false_eq_true, false_implies, true_implies, Classical.not_not, Nat.le_refl, Nat.zero_le]
    try dsimp only
    refine hQ _ _ ⟨by rw [e], I', rfl, ho, fun g hg1 hg2 => ?_⟩
    rcases Nat.lt_or_ge g f with z | z
    · exact hg g z hg2
    · have := s_rk_mono (s := zb set) z
      have := s_rk_lt hg1 hg2
      omega
  intro k
  induction k with
  | zero =>
    intro f I' hf ho hg
    have e : f = 16 := by omega
    have n16 : (16 : Int32) ≤ nI f := by rw [e]; decide
    refine zW_ok hj B158_4 4 _ _ _ _ _ b158_4 ?_
    simp only [B158_4, zW, z_wp1, z_ld, z_f0, z_f1, z_f2, z_f3, List.getElem?_cons_zero, List.getElem?_cons_succ, true_and, and_true, Int32.reduceOfInt, z_i10, z_i01, Int32.reduceLT, Int32.reduceLE, Int32.reduceAdd, Int32.reduceSub, z_set, z_set2, z_kil, List.set_cons_zero, List.set_cons_succ, List.take_succ_cons, List.take_zero, List.drop_succ_cons, List.drop_zero, List.reverse_cons, List.reverse_nil, List.nil_append, List.cons_append, List.getD_cons_succ, List.getD_cons_zero, List.getD_nil, List.length_cons, List.length_nil, List.map_cons, List.map_nil, List.sum_cons, List.sum_nil, Nat.reduceAdd, Nat.reduceLeDiff, Value.category, Option.toList, true_or, or_true, z_ua, ↓reduceIte, Nat.reduceEqDiff, eq_self, not_true_eq_false, not_false_eq_true, false_implies, true_implies, Classical.not_not, Nat.le_refl, Nat.zero_le, n16]
    try dsimp only
    exact fin f I' (by omega) (Or.inl e) ho hg
  | succ k ih =>
    intro f I' hf ho hg
    have n16 : ¬ (16 : Int32) ≤ nI f := fun q => by
      have := (nI_leI (a := 16) (b := f) (by omega) (by omega)).mp q
      omega
    have hm := s_rk_mono (s := zb set) (f := f) (F := 16) (by omega)
    have lM : Int32.ofNat M ≤ nI (s_rk (zb set) f) ↔ M ≤ s_rk (zb set) f := nI_leI (by omega) (by omega)
    have k12 : 12 ≤ K a ∧ K a ≤ 16 := by omega
    refine zW_ok hj B158_4 4 _ _ _ _ _ b158_4 ?_
    simp only [B158_4, zW, z_wp1, z_ld, z_f0, z_f1, z_f2, z_f3, List.getElem?_cons_zero, List.getElem?_cons_succ, true_and, and_true, Int32.reduceOfInt, z_i10, z_i01, Int32.reduceLT, Int32.reduceLE, Int32.reduceAdd, Int32.reduceSub, z_set, z_set2, z_kil, List.set_cons_zero, List.set_cons_succ, List.take_succ_cons, List.take_zero, List.drop_succ_cons, List.drop_zero, List.reverse_cons, List.reverse_nil, List.nil_append, List.cons_append, List.getD_cons_succ, List.getD_cons_zero, List.getD_nil, List.length_cons, List.length_nil, List.map_cons, List.map_nil, List.sum_cons, List.sum_nil, Nat.reduceAdd, Nat.reduceLeDiff, Value.category, Option.toList, true_or, or_true, z_ua, ↓reduceIte, Nat.reduceEqDiff, eq_self, not_true_eq_false, not_false_eq_true, false_implies, true_implies, Classical.not_not, Nat.le_refl, Nat.zero_le, n16, hK, hL, lM]
    try dsimp only
    refine ⟨fun h => fin f I' (by omega) (Or.inr h) ho hg, fun h => ⟨fun h1 => ?_, fun h1 => ?_⟩⟩
    · have e := (zb_tst (show f < 32 by omega)).mp h1
      have er : s_rk (zb set) (f + 1) = s_rk (zb set) f := by rw [s_rk, e]; rfl
      refine zW_ok hj B158_31 31 _ _ _ _ _ b158_31 ?_
      simp only [B158_31, zW, z_wp1, z_ld, z_f0, z_f1, z_f2, z_f3, List.getElem?_cons_zero, List.getElem?_cons_succ, true_and, and_true, Int32.reduceOfInt, z_i10, z_i01, Int32.reduceLT, Int32.reduceLE, Int32.reduceAdd, Int32.reduceSub, z_set, z_set2, z_kil, List.set_cons_zero, List.set_cons_succ, List.take_succ_cons, List.take_zero, List.drop_succ_cons, List.drop_zero, List.reverse_cons, List.reverse_nil, List.nil_append, List.cons_append, List.getD_cons_succ, List.getD_cons_zero, List.getD_nil, List.length_cons, List.length_nil, List.map_cons, List.map_nil, List.sum_cons, List.sum_nil, Nat.reduceAdd, Nat.reduceLeDiff, Value.category, Option.toList, true_or, or_true, z_ua, ↓reduceIte, Nat.reduceEqDiff, eq_self, not_true_eq_false, not_false_eq_true, false_implies, true_implies, Classical.not_not, Nat.le_refl, Nat.zero_le, nI_1]
      try dsimp only
      have := ih (f + 1) I' (by omega) ho (fun g hg1 hg2 => hg g (by
        rcases Nat.lt_or_ge g f with z | z
        · exact z
        · rw [show g = f by omega, e] at hg2; cases hg2) hg2)
      rw [er] at this
      exact this
    · have e : zb set f = true := by
        cases z : zb set f with
        | true => rfl
        | false => exact absurd ((zb_tst (by omega)).mpr z) h1
      have er : s_rk (zb set) (f + 1) = s_rk (zb set) f + 1 := by rw [s_rk, e]; rfl
      have e1 : (nI (s_rk (zb set) f)).toNatClampNeg = s_rk (zb set) f := nI_clamp (by omega)
      have v1 : vp_in (nI (s_rk (zb set) f)) M := vp_in_nI (by omega) (by omega)
      simp only [zW, z_wp1, z_ld, z_f0, z_f1, z_f2, z_f3, List.getElem?_cons_zero, List.getElem?_cons_succ, true_and, and_true, Int32.reduceOfInt, z_i10, z_i01, Int32.reduceLT, Int32.reduceLE, Int32.reduceAdd, Int32.reduceSub, z_set, z_set2, z_kil, List.set_cons_zero, List.set_cons_succ, List.take_succ_cons, List.take_zero, List.drop_succ_cons, List.drop_zero, List.reverse_cons, List.reverse_nil, List.nil_append, List.cons_append, List.getD_cons_succ, List.getD_cons_zero, List.getD_nil, List.length_cons, List.length_nil, List.map_cons, List.map_nil, List.sum_cons, List.sum_nil, Nat.reduceAdd, Nat.reduceLeDiff, Value.category, Option.toList, true_or, or_true, z_ua, ↓reduceIte, Nat.reduceEqDiff, eq_self, not_true_eq_false, not_false_eq_true, false_implies, true_implies, Classical.not_not, Nat.le_refl, Nat.zero_le, e1, v1, nI_1, z_hI]
      try dsimp only
      refine zW_ok hj B158_31 31 _ _ _ _ _ b158_31 ?_
      simp only [B158_31, zW, z_wp1, z_ld, z_f0, z_f1, z_f2, z_f3, List.getElem?_cons_zero, List.getElem?_cons_succ, true_and, and_true, Int32.reduceOfInt, z_i10, z_i01, Int32.reduceLT, Int32.reduceLE, Int32.reduceAdd, Int32.reduceSub, z_set, z_set2, z_kil, List.set_cons_zero, List.set_cons_succ, List.take_succ_cons, List.take_zero, List.drop_succ_cons, List.drop_zero, List.reverse_cons, List.reverse_nil, List.nil_append, List.cons_append, List.getD_cons_succ, List.getD_cons_zero, List.getD_nil, List.length_cons, List.length_nil, List.map_cons, List.map_nil, List.sum_cons, List.sum_nil, Nat.reduceAdd, Nat.reduceLeDiff, Value.category, Option.toList, true_or, or_true, z_ua, ↓reduceIte, Nat.reduceEqDiff, eq_self, not_true_eq_false, not_false_eq_true, false_implies, true_implies, Classical.not_not, Nat.le_refl, Nat.zero_le, nI_1]
      try dsimp only
      have := ih (f + 1) (z_u I' a (s_rk (zb set) f) (nI f)) (by omega) (fun q hq => by rw [z_u_ne hq]; exact ho q hq) (fun g hg1 hg2 => by
        rw [z_u_at]
        by_cases z : g = f
        · rw [z, if_pos rfl]
        · have := s_rk_lt (show g < f by omega) hg2
          rw [if_neg (by omega)]
          exact hg g (by omega) hg2)
      rw [er] at this
      exact this
/-- spread -/
theorem c158 {set : Int32} (hK : K a = 13) (hL : L a = M) (hM : s_rk (zb set) 16 ≤ M) (hM2 : M ≤ 16) : z_Ctr l 0 158 [.int set, .ref a] (n, K, L, I, J, G) 0 0 (fun r h' => r = some (.int (nI (s_rk (zb set) 16))) ∧ ∃ I', h' = (n, K, L, I', J, G) ∧ (∀ q, q ≠ a → I' q = I q) ∧ ∀ f, f < 16 → zb set f = true → I' a (s_rk (zb set) f) = nI f) := by
  refine z_ctr (by decide) (by decide +kernel) (Nat.le_of_ble_eq_true rfl) (by decide +kernel) (fun X hl hj hd hm hs hsc hQ => ?_)
  show zV X 0 [some (.int set), some (.ref a), none, none] [] _ 0 0
  refine zW_ok hj B158_0 0 _ _ _ _ _ b158_0 ?_
  simp only [B158_0, zW, z_wp1, z_ld, z_f0, z_f1, z_f2, z_f3, List.getElem?_cons_zero, List.getElem?_cons_succ, true_and, and_true, Int32.reduceOfInt, z_i10, z_i01, Int32.reduceLT, Int32.reduceLE, Int32.reduceAdd, Int32.reduceSub, z_set, z_set2, z_kil, List.set_cons_zero, List.set_cons_succ, List.take_succ_cons, List.take_zero, List.drop_succ_cons, List.drop_zero, List.reverse_cons, List.reverse_nil, List.nil_append, List.cons_append, List.getD_cons_succ, List.getD_cons_zero, List.getD_nil, List.length_cons, List.length_nil, List.map_cons, List.map_nil, List.sum_cons, List.sum_nil, Nat.reduceAdd, Nat.reduceLeDiff, Value.category, Option.toList, true_or, or_true, z_ua, ↓reduceIte, Nat.reduceEqDiff, eq_self, not_true_eq_false, not_false_eq_true, false_implies, true_implies, Classical.not_not, Nat.le_refl, Nat.zero_le]
  try dsimp only
  exact c158_loop hj hK hL hM hM2 hQ 16 0 I (by omega) (fun _ _ => rfl) (fun g hg => by omega)
theorem c75_loop {X : zX} (hS : SS K L G) (hj : X.2.1 = 75) (hd : X.2.2.1 = 1) (h4 : I 38 4 = nI cn) (hc : cn ≤ 16) (hfs : ∀ p, p < cn → I 39 p = nI (fs p) ∧ fs p < 16) {mode : Int32} {i : Nat} (hQ : ∀ r h', r = some (.int (x_ha (x_row (I 16) (I 17) mode) fs i cn)) ∧ h' = (n, K, L, I, J, G) → X.2.2.2.2.2.2 r h') : ∀ k p : Nat, p + k = cn → zV X 6 [some (.ref 38), some (.ref 10), some (.int mode), some (.int (nI i)), some (.int (x_ha (x_row (I 16) (I 17) mode) fs i p)), some (.int (nI p))] [] (n, K, L, I, J, G) 0 0
  | 0, p, hk => by
    have e : p = cn := by omega
    subst e
    refine zW_ok hj B75_6 6 _ _ _ _ _ b75_6 ?_
    simp only [B75_6, zW, z_wp1, z_ld, z_f0, z_f1, z_f2, z_f3, List.getElem?_cons_zero, List.getElem?_cons_succ, true_and, and_true, Int32.reduceOfInt, z_i10, z_i01, Int32.reduceLT, Int32.reduceLE, Int32.reduceAdd, Int32.reduceSub, z_set, z_set2, z_kil, List.set_cons_zero, List.set_cons_succ, List.take_succ_cons, List.take_zero, List.drop_succ_cons, List.drop_zero, List.reverse_cons, List.reverse_nil, List.nil_append, List.cons_append, List.getD_cons_succ, List.getD_cons_zero, List.getD_nil, List.length_cons, List.length_nil, List.map_cons, List.map_nil, List.sum_cons, List.sum_nil, Nat.reduceAdd, Nat.reduceLeDiff, Value.category, Option.toList, true_or, or_true, z_ua, ↓reduceIte, Nat.reduceEqDiff, eq_self, not_true_eq_false, not_false_eq_true, false_implies, true_implies, Classical.not_not, Nat.le_refl, Nat.zero_le, sK38 hS, h4]
    try dsimp only
    refine ⟨fun _ => ?_, fun q => absurd (nI_le (Nat.le_refl _) (by omega)) q⟩
    refine zW_ok hj B75_45 45 _ _ _ _ _ b75_45 ?_
    simp only [B75_45, zW, z_wp1, z_ld, z_f0, z_f1, z_f2, z_f3, List.getElem?_cons_zero, List.getElem?_cons_succ, true_and, and_true, Int32.reduceOfInt, z_i10, z_i01, Int32.reduceLT, Int32.reduceLE, Int32.reduceAdd, Int32.reduceSub, z_set, z_set2, z_kil, List.set_cons_zero, List.set_cons_succ, List.take_succ_cons, List.take_zero, List.drop_succ_cons, List.drop_zero, List.reverse_cons, List.reverse_nil, List.nil_append, List.cons_append, List.getD_cons_succ, List.getD_cons_zero, List.getD_nil, List.length_cons, List.length_nil, List.map_cons, List.map_nil, List.sum_cons, List.sum_nil, Nat.reduceAdd, Nat.reduceLeDiff, Value.category, Option.toList, true_or, or_true, z_ua, ↓reduceIte, Nat.reduceEqDiff, eq_self, not_true_eq_false, not_false_eq_true, false_implies, true_implies, Classical.not_not, Nat.le_refl, Nat.zero_le]
    try dsimp only
    exact hQ _ _ ⟨rfl, rfl⟩
  | k + 1, p, hk => by
    have e1 : (nI p).toNatClampNeg = p := nI_clamp (by omega)
    have v1 : vp_in (nI p) 16 := vp_in_nI (by omega) (by omega)
    obtain ⟨f1, f2⟩ := hfs p (by omega)
    have ih := c75_loop hS hj hd h4 hc hfs hQ k (p + 1) (by omega)
    refine zW_ok hj B75_6 6 _ _ _ _ _ b75_6 ?_
    simp only [B75_6, zW, z_wp1, z_ld, z_f0, z_f1, z_f2, z_f3, List.getElem?_cons_zero, List.getElem?_cons_succ, true_and, and_true, Int32.reduceOfInt, z_i10, z_i01, Int32.reduceLT, Int32.reduceLE, Int32.reduceAdd, Int32.reduceSub, z_set, z_set2, z_kil, List.set_cons_zero, List.set_cons_succ, List.take_succ_cons, List.take_zero, List.drop_succ_cons, List.drop_zero, List.reverse_cons, List.reverse_nil, List.nil_append, List.cons_append, List.getD_cons_succ, List.getD_cons_zero, List.getD_nil, List.length_cons, List.length_nil, List.map_cons, List.map_nil, List.sum_cons, List.sum_nil, Nat.reduceAdd, Nat.reduceLeDiff, Value.category, Option.toList, true_or, or_true, z_ua, ↓reduceIte, Nat.reduceEqDiff, eq_self, not_true_eq_false, not_false_eq_true, false_implies, true_implies, Classical.not_not, Nat.le_refl, Nat.zero_le, sK38 hS, sK10 hS, h4, sG38_5 hS, sK39 hS, sL39 hS, e1, v1, f1]
    try dsimp only
    refine ⟨fun q => absurd q (nI_ge (by omega) (by omega)), fun _ => ?_⟩
    refine z_callD (c98 (I := I) (J := J) hS f2 mode) (by omega) (by omega) (by omega) (Nat.le_of_ble_eq_true rfl) ?_
    try simp only [zW, z_wp1, z_ld, z_f0, z_f1, z_f2, z_f3, List.getElem?_cons_zero, List.getElem?_cons_succ, true_and, and_true, Int32.reduceOfInt, z_i10, z_i01, Int32.reduceLT, Int32.reduceLE, Int32.reduceAdd, Int32.reduceSub, z_set, z_set2, z_kil, List.set_cons_zero, List.set_cons_succ, List.take_succ_cons, List.take_zero, List.drop_succ_cons, List.drop_zero, List.reverse_cons, List.reverse_nil, List.nil_append, List.cons_append, List.getD_cons_succ, List.getD_cons_zero, List.getD_nil, List.length_cons, List.length_nil, List.map_cons, List.map_nil, List.sum_cons, List.sum_nil, Nat.reduceAdd, Nat.reduceLeDiff, Value.category, Option.toList, true_or, or_true, z_ua, ↓reduceIte, Nat.reduceEqDiff, eq_self, not_true_eq_false, not_false_eq_true, false_implies, true_implies, Classical.not_not, Nat.le_refl, Nat.zero_le, nI_1]
    try dsimp only
    exact ih
/-- havingAt -/
theorem c75 (hS : SS K L G) (h4 : I 38 4 = nI cn) (hc : cn ≤ 16) (hfs : ∀ p, p < cn → I 39 p = nI (fs p) ∧ fs p < 16) (mode : Int32) (i : Nat) : z_D l 1 75 [.ref 38, .ref 10, .int mode, .int (nI i)] (n, K, L, I, J, G) (some (.int (x_ha (x_row (I 16) (I 17) mode) fs i cn))) (n, K, L, I, J, G) := by
  refine z_ctr (by decide) (by decide +kernel) (Nat.le_of_ble_eq_true rfl) (by decide +kernel) (fun X hl hj hd hm hs hsc hQ => ?_)
  show zV X 0 [some (.ref 38), some (.ref 10), some (.int mode), some (.int (nI i)), none, none] [] _ 0 0
  refine zW_ok hj B75_0 0 _ _ _ _ _ b75_0 ?_
  simp only [B75_0, zW, z_wp1, z_ld, z_f0, z_f1, z_f2, z_f3, List.getElem?_cons_zero, List.getElem?_cons_succ, true_and, and_true, Int32.reduceOfInt, z_i10, z_i01, Int32.reduceLT, Int32.reduceLE, Int32.reduceAdd, Int32.reduceSub, z_set, z_set2, z_kil, List.set_cons_zero, List.set_cons_succ, List.take_succ_cons, List.take_zero, List.drop_succ_cons, List.drop_zero, List.reverse_cons, List.reverse_nil, List.nil_append, List.cons_append, List.getD_cons_succ, List.getD_cons_zero, List.getD_nil, List.length_cons, List.length_nil, List.map_cons, List.map_nil, List.sum_cons, List.sum_nil, Nat.reduceAdd, Nat.reduceLeDiff, Value.category, Option.toList, true_or, or_true, z_ua, ↓reduceIte, Nat.reduceEqDiff, eq_self, not_true_eq_false, not_false_eq_true, false_implies, true_implies, Classical.not_not, Nat.le_refl, Nat.zero_le]
  try dsimp only
  exact c75_loop hS hj hd h4 hc hfs hQ cn 0 (by omega)
theorem c76_loop {X : zX} (hS : SS K L G) (hj : X.2.1 = 76) (h7 : I 38 7 = nI bc) (hb : bc ≤ 12) {set : Int32} (hy : ∀ b, b < bc → I 40 b = set → X.2.2.2.2.2.2 (some (.int 1)) (n, K, L, I, J, G)) (hn : (∀ b, b < bc → ¬ I 40 b = set) → X.2.2.2.2.2.2 (some (.int 0)) (n, K, L, I, J, G)) : ∀ k i : Nat, i + k = bc → (∀ b, b < i → ¬ I 40 b = set) → zV X 2 [some (.ref 38), some (.int set), some (.int (nI i))] [] (n, K, L, I, J, G) 0 0
  | 0, i, hk, hno => by
    have e : i = bc := by omega
    subst e
    refine zW_ok hj B76_2 2 _ _ _ _ _ b76_2 ?_
    simp only [B76_2, zW, z_wp1, z_ld, z_f0, z_f1, z_f2, z_f3, List.getElem?_cons_zero, List.getElem?_cons_succ, true_and, and_true, Int32.reduceOfInt, z_i10, z_i01, Int32.reduceLT, Int32.reduceLE, Int32.reduceAdd, Int32.reduceSub, z_set, z_set2, z_kil, List.set_cons_zero, List.set_cons_succ, List.take_succ_cons, List.take_zero, List.drop_succ_cons, List.drop_zero, List.reverse_cons, List.reverse_nil, List.nil_append, List.cons_append, List.getD_cons_succ, List.getD_cons_zero, List.getD_nil, List.length_cons, List.length_nil, List.map_cons, List.map_nil, List.sum_cons, List.sum_nil, Nat.reduceAdd, Nat.reduceLeDiff, Value.category, Option.toList, true_or, or_true, z_ua, ↓reduceIte, Nat.reduceEqDiff, eq_self, not_true_eq_false, not_false_eq_true, false_implies, true_implies, Classical.not_not, Nat.le_refl, Nat.zero_le, sK38 hS, h7]
    try dsimp only
    refine ⟨fun _ => ?_, fun q => absurd (nI_le (Nat.le_refl _) (by omega)) q⟩
    refine zW_ok hj B76_28 28 _ _ _ _ _ b76_28 ?_
    simp only [B76_28, zW, z_wp1, z_ld, z_f0, z_f1, z_f2, z_f3, List.getElem?_cons_zero, List.getElem?_cons_succ, true_and, and_true, Int32.reduceOfInt, z_i10, z_i01, Int32.reduceLT, Int32.reduceLE, Int32.reduceAdd, Int32.reduceSub, z_set, z_set2, z_kil, List.set_cons_zero, List.set_cons_succ, List.take_succ_cons, List.take_zero, List.drop_succ_cons, List.drop_zero, List.reverse_cons, List.reverse_nil, List.nil_append, List.cons_append, List.getD_cons_succ, List.getD_cons_zero, List.getD_nil, List.length_cons, List.length_nil, List.map_cons, List.map_nil, List.sum_cons, List.sum_nil, Nat.reduceAdd, Nat.reduceLeDiff, Value.category, Option.toList, true_or, or_true, z_ua, ↓reduceIte, Nat.reduceEqDiff, eq_self, not_true_eq_false, not_false_eq_true, false_implies, true_implies, Classical.not_not, Nat.le_refl, Nat.zero_le]
    try dsimp only
    exact hn hno
  | k + 1, i, hk, hno => by
    have e1 : (nI i).toNatClampNeg = i := nI_clamp (by omega)
    have v1 : vp_in (nI i) 12 := vp_in_nI (by omega) (by omega)
    refine zW_ok hj B76_2 2 _ _ _ _ _ b76_2 ?_
    simp only [B76_2, zW, z_wp1, z_ld, z_f0, z_f1, z_f2, z_f3, List.getElem?_cons_zero, List.getElem?_cons_succ, true_and, and_true, Int32.reduceOfInt, z_i10, z_i01, Int32.reduceLT, Int32.reduceLE, Int32.reduceAdd, Int32.reduceSub, z_set, z_set2, z_kil, List.set_cons_zero, List.set_cons_succ, List.take_succ_cons, List.take_zero, List.drop_succ_cons, List.drop_zero, List.reverse_cons, List.reverse_nil, List.nil_append, List.cons_append, List.getD_cons_succ, List.getD_cons_zero, List.getD_nil, List.length_cons, List.length_nil, List.map_cons, List.map_nil, List.sum_cons, List.sum_nil, Nat.reduceAdd, Nat.reduceLeDiff, Value.category, Option.toList, true_or, or_true, z_ua, ↓reduceIte, Nat.reduceEqDiff, eq_self, not_true_eq_false, not_false_eq_true, false_implies, true_implies, Classical.not_not, Nat.le_refl, Nat.zero_le, sK38 hS, h7, sG38_6 hS, sK40 hS, sL40 hS, e1, v1]
    try dsimp only
    refine ⟨fun q => absurd q (nI_ge (by omega) (by omega)), fun _ => ⟨fun h => ?_, fun h => hy i (by omega) h⟩⟩
    refine zW_ok hj B76_22 22 _ _ _ _ _ b76_22 ?_
    simp only [B76_22, zW, z_wp1, z_ld, z_f0, z_f1, z_f2, z_f3, List.getElem?_cons_zero, List.getElem?_cons_succ, true_and, and_true, Int32.reduceOfInt, z_i10, z_i01, Int32.reduceLT, Int32.reduceLE, Int32.reduceAdd, Int32.reduceSub, z_set, z_set2, z_kil, List.set_cons_zero, List.set_cons_succ, List.take_succ_cons, List.take_zero, List.drop_succ_cons, List.drop_zero, List.reverse_cons, List.reverse_nil, List.nil_append, List.cons_append, List.getD_cons_succ, List.getD_cons_zero, List.getD_nil, List.length_cons, List.length_nil, List.map_cons, List.map_nil, List.sum_cons, List.sum_nil, Nat.reduceAdd, Nat.reduceLeDiff, Value.category, Option.toList, true_or, or_true, z_ua, ↓reduceIte, Nat.reduceEqDiff, eq_self, not_true_eq_false, not_false_eq_true, false_implies, true_implies, Classical.not_not, Nat.le_refl, Nat.zero_le, nI_1]
    try dsimp only
    refine c76_loop hS hj h7 hb hy hn k (i + 1) (by omega) (fun b hb' => ?_)
    by_cases z : b = i
    · rw [z]; exact h
    · exact hno b (by omega)
theorem c76y (hS : SS K L G) (h7 : I 38 7 = nI bc) (hb : bc ≤ 12) {set : Int32} (h : ∃ b, b < bc ∧ I 40 b = set) : z_D l 0 76 [.ref 38, .int set] (n, K, L, I, J, G) (some (.int 1)) (n, K, L, I, J, G) := by
  refine z_ctr (by decide) (by decide +kernel) (Nat.le_of_ble_eq_true rfl) (by decide +kernel) (fun X hl hj hd hm hs hsc hQ => ?_)
  show zV X 0 [some (.ref 38), some (.int set), none] [] _ 0 0
  refine zW_ok hj B76_0 0 _ _ _ _ _ b76_0 ?_
  simp only [B76_0, zW, z_wp1, z_ld, z_f0, z_f1, z_f2, z_f3, List.getElem?_cons_zero, List.getElem?_cons_succ, true_and, and_true, Int32.reduceOfInt, z_i10, z_i01, Int32.reduceLT, Int32.reduceLE, Int32.reduceAdd, Int32.reduceSub, z_set, z_set2, z_kil, List.set_cons_zero, List.set_cons_succ, List.take_succ_cons, List.take_zero, List.drop_succ_cons, List.drop_zero, List.reverse_cons, List.reverse_nil, List.nil_append, List.cons_append, List.getD_cons_succ, List.getD_cons_zero, List.getD_nil, List.length_cons, List.length_nil, List.map_cons, List.map_nil, List.sum_cons, List.sum_nil, Nat.reduceAdd, Nat.reduceLeDiff, Value.category, Option.toList, true_or, or_true, z_ua, ↓reduceIte, Nat.reduceEqDiff, eq_self, not_true_eq_false, not_false_eq_true, false_implies, true_implies, Classical.not_not, Nat.le_refl, Nat.zero_le]
  try dsimp only
  exact c76_loop hS hj h7 hb (fun _ _ _ => hQ _ _ ⟨rfl, rfl⟩) (fun q => by obtain ⟨b, h1, h2⟩ := h; exact absurd h2 (q b h1)) bc 0 (by omega) (fun b hb => by omega)
theorem c76n (hS : SS K L G) (h7 : I 38 7 = nI bc) (hb : bc ≤ 12) {set : Int32} (h : ¬ ∃ b, b < bc ∧ I 40 b = set) : z_D l 0 76 [.ref 38, .int set] (n, K, L, I, J, G) (some (.int 0)) (n, K, L, I, J, G) := by
  refine z_ctr (by decide) (by decide +kernel) (Nat.le_of_ble_eq_true rfl) (by decide +kernel) (fun X hl hj hd hm hs hsc hQ => ?_)
  show zV X 0 [some (.ref 38), some (.int set), none] [] _ 0 0
  refine zW_ok hj B76_0 0 _ _ _ _ _ b76_0 ?_
  simp only [B76_0, zW, z_wp1, z_ld, z_f0, z_f1, z_f2, z_f3, List.getElem?_cons_zero, List.getElem?_cons_succ, true_and, and_true, Int32.reduceOfInt, z_i10, z_i01, Int32.reduceLT, Int32.reduceLE, Int32.reduceAdd, Int32.reduceSub, z_set, z_set2, z_kil, List.set_cons_zero, List.set_cons_succ, List.take_succ_cons, List.take_zero, List.drop_succ_cons, List.drop_zero, List.reverse_cons, List.reverse_nil, List.nil_append, List.cons_append, List.getD_cons_succ, List.getD_cons_zero, List.getD_nil, List.length_cons, List.length_nil, List.map_cons, List.map_nil, List.sum_cons, List.sum_nil, Nat.reduceAdd, Nat.reduceLeDiff, Value.category, Option.toList, true_or, or_true, z_ua, ↓reduceIte, Nat.reduceEqDiff, eq_self, not_true_eq_false, not_false_eq_true, false_implies, true_implies, Classical.not_not, Nat.le_refl, Nat.zero_le]
  try dsimp only
  exact c76_loop hS hj h7 hb (fun b h1 h2 => absurd ⟨b, h1, h2⟩ h) (fun _ => hQ _ _ ⟨rfl, rfl⟩) bc 0 (by omega) (fun b hb => by omega)
/-- blocks that are listed -/
def x_bl (bl blk : Nat → Int32) (cn bc m : Nat) : Prop := (∀ b, b < bc → ∃ i, i < m ∧ bl b = blk i) ∧ ∀ i, i < m → (∃ b, b < bc ∧ bl b = blk i) ∨ s_rk (zb (blk i)) 16 ≤ 1 ∨ cn ≤ s_rk (zb (blk i)) 16
theorem c74_loop {X : zX} (hS : SS K L G) (hj : X.2.1 = 74) (hd : X.2.2.1 = 2) (h4 : I 38 4 = nI cn) (hc : cn ≤ 16) (hfs : ∀ p, p < cn → I 39 p = nI (fs p) ∧ fs p < 16) {mode marks : Int32} (hQ : ∀ r h', (r = none ∧ ∃ I' bc, h' = (n, K, L, I', J, G) ∧ (∀ q, q ≠ 38 → q ≠ 40 → I' q = I q) ∧ (∀ k, k ≠ 7 → I' 38 k = I 38 k) ∧ I' 38 7 = nI bc ∧ bc ≤ 12 ∧ x_bl (I' 40) (x_bk (x_row (I 16) (I 17) mode) fs cn marks) cn bc 12) → X.2.2.2.2.2.2 r h') : ∀ (k i bc : Nat) (I' : Nat → Nat → Int32) (x5 x6 : Option Value), i + k = 12 → (∀ q, q ≠ 38 → q ≠ 40 → I' q = I q) → (∀ k, k ≠ 7 → I' 38 k = I 38 k) → I' 38 7 = nI bc → bc ≤ i → x_bl (I' 40) (x_bk (x_row (I 16) (I 17) mode) fs cn marks) cn bc i →
      zV X 8 [some (.ref 38), some (.ref 10), some (.int mode), some (.int marks), some (.int (nI i)), x5, x6] [] (n, K, L, I', J, G) 0 0
  | 0, i, bc, I', x5, x6, hk, ho, ho2, h7, hb, hx => by
    have e : i = 12 := by omega
    subst e
    have n12 : (12 : Int32) ≤ nI 12 := by decide
    refine zW_ok hj B74_8 8 _ _ _ _ _ b74_8 ?_
    simp only [B74_8, zW, z_wp1, z_ld, z_f0, z_f1, z_f2, z_f3, List.getElem?_cons_zero, List.getElem?_cons_succ, true_and, and_true, Int32.reduceOfInt, z_i10, z_i01, Int32.reduceLT, Int32.reduceLE, Int32.reduceAdd, Int32.reduceSub, z_set, z_set2, z_kil, List.set_cons_zero, List.set_cons_succ, List.take_succ_cons, List.take_zero, List.drop_succ_cons, List.drop_zero, List.reverse_cons, List.reverse_nil, List.nil_append, List.cons_append, List.getD_cons_succ, List.getD_cons_zero, List.getD_nil, List.length_cons, List.length_nil, List.map_cons, List.map_nil, List.sum_cons, List.sum_nil, Nat.reduceAdd, Nat.reduceLeDiff, Value.category, Option.toList, true_or, or_true, z_ua, ↓reduceIte, Nat.reduceEqDiff, eq_self, not_true_eq_false, not_false_eq_true, false_implies, true_implies, Classical.not_not, Nat.le_refl, Nat.zero_le, n12]
    try dsimp only
    refine zW_ok hj B74_96 96 _ _ _ _ _ b74_96 ?_
    simp only [B74_96, zW, z_wp1, z_ld, z_f0, z_f1, z_f2, z_f3, List.getElem?_cons_zero, List.getElem?_cons_succ, true_and, and_true, Int32.reduceOfInt, z_i10, z_i01, Int32.reduceLT, Int32.reduceLE, Int32.reduceAdd, Int32.reduceSub, z_set, z_set2, z_kil, List.set_cons_zero, List.set_cons_succ, List.take_succ_cons, List.take_zero, List.drop_succ_cons, List.drop_zero, List.reverse_cons, List.reverse_nil, List.nil_append, List.cons_append, List.getD_cons_succ, List.getD_cons_zero, List.getD_nil, List.length_cons, List.length_nil, List.map_cons, List.map_nil, List.sum_cons, List.sum_nil, Nat.reduceAdd, Nat.reduceLeDiff, Value.category, Option.toList, true_or, or_true, z_ua, ↓reduceIte, Nat.reduceEqDiff, eq_self, not_true_eq_false, not_false_eq_true, false_implies, true_implies, Classical.not_not, Nat.le_refl, Nat.zero_le]
    try dsimp only
    exact hQ _ _ ⟨rfl, I', bc, rfl, ho, ho2, h7, hb, hx⟩
  | k + 1, i, bc, I', x5, x6, hk, ho, ho2, h7, hb, hx => by
    have n12 : ¬ (12 : Int32) ≤ nI i := fun q => by
      have := (nI_leI (a := 12) (b := i) (by omega) (by omega)).mp q
      omega
    have g4 : I' 38 4 = nI cn := by rw [ho2 4 (by decide)]; exact h4
    have e39 : I' 39 = I 39 := ho 39 (by decide) (by decide)
    have e16 : I' 16 = I 16 := ho 16 (by decide) (by decide)
    have e17 : I' 17 = I 17 := ho 17 (by decide) (by decide)
    have hfs' : ∀ p, p < cn → I' 39 p = nI (fs p) ∧ fs p < 16 := fun p hp => by rw [e39]; exact hfs p hp
    generalize hB : x_bk (x_row (I 16) (I 17) mode) fs cn marks = blk at *
    have hbits : ∀ q, zb (blk i) q = true → q < cn := fun q hq => by
      rw [← hB, x_bk_b (by omega) hc] at hq
      exact hq.2.1
    obtain ⟨kk, hkk, ekk⟩ := zb_toN (s := blk i) (N := 16) (by omega) (fun q hq => by
      cases e : zb (blk i) q with
      | false => rfl
      | true => have := hbits q e; omega)
    have go : ∀ (bc2 : Nat) (I2 : Nat → Nat → Int32) (x5 x6 : Option Value), (∀ q, q ≠ 38 → q ≠ 40 → I2 q = I q) → (∀ k, k ≠ 7 → I2 38 k = I 38 k) → I2 38 7 = nI bc2 → bc2 ≤ i + 1 → x_bl (I2 40) blk cn bc2 (i + 1) → zV X 90 [some (.ref 38), some (.ref 10), some (.int mode), some (.int marks), some (.int (nI i)), x5, x6] [] (n, K, L, I2, J, G) 0 0 := by
      intro bc2 I2 x5 x6 b1 b2 b3 b4 b5
      refine zW_ok hj B74_90 90 _ _ _ _ _ b74_90 ?_
      simp only [B74_90, zW, z_wp1, z_ld, z_f0, z_f1, z_f2, z_f3, List.getElem?_cons_zero, List.getElem?_cons_succ, true_and, and_true, Int32.reduceOfInt, z_i10, z_i01, Int32.reduceLT, Int32.reduceLE, Int32.reduceAdd, Int32.reduceSub, z_set, z_set2, z_kil, List.set_cons_zero, List.set_cons_succ, List.take_succ_cons, List.take_zero, List.drop_succ_cons, List.drop_zero, List.reverse_cons, List.reverse_nil, List.nil_append, List.cons_append, List.getD_cons_succ, List.getD_cons_zero, List.getD_nil, List.length_cons, List.length_nil, List.map_cons, List.map_nil, List.sum_cons, List.sum_nil, Nat.reduceAdd, Nat.reduceLeDiff, Value.category, Option.toList, true_or, or_true, z_ua, ↓reduceIte, Nat.reduceEqDiff, eq_self, not_true_eq_false, not_false_eq_true, false_implies, true_implies, Classical.not_not, Nat.le_refl, Nat.zero_le, nI_1]
      try dsimp only
      exact c74_loop hS hj hd h4 hc hfs (marks := marks) (by rw [hB]; exact hQ) k (i + 1) bc2 I2 _ _ (by omega) b1 b2 b3 b4 (by rw [hB]; exact b5)
    have same : ∀ x5 x6 : Option Value, ((∃ b, b < bc ∧ I' 40 b = blk i) ∨ s_rk (zb (blk i)) 16 ≤ 1 ∨ cn ≤ s_rk (zb (blk i)) 16) → zV X 90 [some (.ref 38), some (.ref 10), some (.int mode), some (.int marks), some (.int (nI i)), x5, x6] [] (n, K, L, I', J, G) 0 0 := by
      intro x5 x6 h
      refine go bc I' x5 x6 ho ho2 h7 (by omega) ⟨fun b hb' => ?_, fun j hj => ?_⟩
      · obtain ⟨j, j1, j2⟩ := hx.1 b hb'
        exact ⟨j, by omega, j2⟩
      · by_cases z : j = i
        · rw [z]; exact h
        · exact hx.2 j (by omega)
    have hr16 : s_rk (zb (blk i)) 16 ≤ 16 := by
      have := s_rk_le (b := fun _ => true) (b' := zb (blk i)) (n := 16) (fun _ _ _ => rfl)
      rw [s_rk_full] at this
      exact this
    have body : zV X 36 [some (.ref 38), some (.ref 10), some (.int mode), some (.int marks), some (.int (nI i)), x5, x6] [.int (blk i)] (n, K, L, I', J, G) 0 0 := by
      have l1 : nI (s_rk (zb (blk i)) 16) ≤ 1 ↔ s_rk (zb (blk i)) 16 ≤ 1 := nI_leI (b := 1) (by omega) (by omega)
      have l2 : nI cn ≤ nI (s_rk (zb (blk i)) 16) ↔ cn ≤ s_rk (zb (blk i)) 16 := nI_leI (by omega) (by omega)
      have cb := c243 (l := X.1) (n := n) (K := K) (L := L) (I := I') (J := J) (G := G) hkk
      rw [← ekk] at cb
      refine zW_ok hj B74_36 36 _ _ _ _ _ b74_36 ?_
      simp only [B74_36, zW, z_wp1, z_ld, z_f0, z_f1, z_f2, z_f3, List.getElem?_cons_zero, List.getElem?_cons_succ, true_and, and_true, Int32.reduceOfInt, z_i10, z_i01, Int32.reduceLT, Int32.reduceLE, Int32.reduceAdd, Int32.reduceSub, z_set, z_set2, z_kil, List.set_cons_zero, List.set_cons_succ, List.take_succ_cons, List.take_zero, List.drop_succ_cons, List.drop_zero, List.reverse_cons, List.reverse_nil, List.nil_append, List.cons_append, List.getD_cons_succ, List.getD_cons_zero, List.getD_nil, List.length_cons, List.length_nil, List.map_cons, List.map_nil, List.sum_cons, List.sum_nil, Nat.reduceAdd, Nat.reduceLeDiff, Value.category, Option.toList, true_or, or_true, z_ua, ↓reduceIte, Nat.reduceEqDiff, eq_self, not_true_eq_false, not_false_eq_true, false_implies, true_implies, Classical.not_not, Nat.le_refl, Nat.zero_le]
      try dsimp only
      refine z_callD (cb) (by omega) (by omega) (by omega) (Nat.le_of_ble_eq_true rfl) ?_
      try simp only [zW, z_wp1, z_ld, z_f0, z_f1, z_f2, z_f3, List.getElem?_cons_zero, List.getElem?_cons_succ, true_and, and_true, Int32.reduceOfInt, z_i10, z_i01, Int32.reduceLT, Int32.reduceLE, Int32.reduceAdd, Int32.reduceSub, z_set, z_set2, z_kil, List.set_cons_zero, List.set_cons_succ, List.take_succ_cons, List.take_zero, List.drop_succ_cons, List.drop_zero, List.reverse_cons, List.reverse_nil, List.nil_append, List.cons_append, List.getD_cons_succ, List.getD_cons_zero, List.getD_nil, List.length_cons, List.length_nil, List.map_cons, List.map_nil, List.sum_cons, List.sum_nil, Nat.reduceAdd, Nat.reduceLeDiff, Value.category, Option.toList, true_or, or_true, z_ua, ↓reduceIte, Nat.reduceEqDiff, eq_self, not_true_eq_false, not_false_eq_true, false_implies, true_implies, Classical.not_not, Nat.le_refl, Nat.zero_le, sK38 hS, l1, l2, g4]
      try dsimp only
      refine ⟨fun h => same _ _ (Or.inr (Or.inl h)), fun h1 => ⟨fun h => same _ _ (Or.inr (Or.inr h)), fun h2 => ?_⟩⟩
      by_cases hin : ∃ b, b < bc ∧ I' 40 b = blk i
      · refine z_callD (c76y (I := I') (J := J) hS h7 (by omega) hin) (by omega) (by omega) (by omega) (Nat.le_of_ble_eq_true rfl) ?_
        try simp only [zW, z_wp1, z_ld, z_f0, z_f1, z_f2, z_f3, List.getElem?_cons_zero, List.getElem?_cons_succ, true_and, and_true, Int32.reduceOfInt, z_i10, z_i01, Int32.reduceLT, Int32.reduceLE, Int32.reduceAdd, Int32.reduceSub, z_set, z_set2, z_kil, List.set_cons_zero, List.set_cons_succ, List.take_succ_cons, List.take_zero, List.drop_succ_cons, List.drop_zero, List.reverse_cons, List.reverse_nil, List.nil_append, List.cons_append, List.getD_cons_succ, List.getD_cons_zero, List.getD_nil, List.length_cons, List.length_nil, List.map_cons, List.map_nil, List.sum_cons, List.sum_nil, Nat.reduceAdd, Nat.reduceLeDiff, Value.category, Option.toList, true_or, or_true, z_ua, ↓reduceIte, Nat.reduceEqDiff, eq_self, not_true_eq_false, not_false_eq_true, false_implies, true_implies, Classical.not_not, Nat.le_refl, Nat.zero_le, sK38 hS]
        try dsimp only
        exact same _ _ (Or.inl hin)
      · have e1 : (nI bc).toNatClampNeg = bc := nI_clamp (by omega)
        have v1 : vp_in (nI bc) 12 := vp_in_nI (by omega) (by omega)
        refine z_callD (c76n (I := I') (J := J) hS h7 (by omega) hin) (by omega) (by omega) (by omega) (Nat.le_of_ble_eq_true rfl) ?_
        try simp only [zW, z_wp1, z_ld, z_f0, z_f1, z_f2, z_f3, List.getElem?_cons_zero, List.getElem?_cons_succ, true_and, and_true, Int32.reduceOfInt, z_i10, z_i01, Int32.reduceLT, Int32.reduceLE, Int32.reduceAdd, Int32.reduceSub, z_set, z_set2, z_kil, List.set_cons_zero, List.set_cons_succ, List.take_succ_cons, List.take_zero, List.drop_succ_cons, List.drop_zero, List.reverse_cons, List.reverse_nil, List.nil_append, List.cons_append, List.getD_cons_succ, List.getD_cons_zero, List.getD_nil, List.length_cons, List.length_nil, List.map_cons, List.map_nil, List.sum_cons, List.sum_nil, Nat.reduceAdd, Nat.reduceLeDiff, Value.category, Option.toList, true_or, or_true, z_ua, ↓reduceIte, Nat.reduceEqDiff, eq_self, not_true_eq_false, not_false_eq_true, false_implies, true_implies, Classical.not_not, Nat.le_refl, Nat.zero_le, sK38 hS, sG38_6 hS, sK40 hS, sL40 hS, h7, e1, v1, nI_1]
        try dsimp only
        refine go (bc + 1) _ _ _ (fun q a b => by rw [z_u_ne a, z_u_ne b]; exact ho q a b) (fun k hk => by rw [z_u_at, if_neg hk, z_u_ne (by decide)]; exact ho2 k hk) (by rw [z_u_at, if_pos rfl]) (by omega) ?_
        rw [z_u_ne (by decide)]
        refine ⟨fun b hb' => ?_, fun j hj => ?_⟩
        · rw [z_u_at]
          by_cases z : b = bc
          · rw [if_pos z]; exact ⟨i, by omega, rfl⟩
          · rw [if_neg z]
            obtain ⟨j, j1, j2⟩ := hx.1 b (by omega)
            exact ⟨j, by omega, j2⟩
        · by_cases z : j = i
          · exact Or.inl ⟨bc, by omega, by rw [z_u_at, if_pos rfl, z]⟩
          · rcases hx.2 j (by omega) with ⟨b, b1, b2⟩ | q
            · exact Or.inl ⟨b, by omega, by rw [z_u_at, if_neg (by omega)]; exact b2⟩
            · exact Or.inr q
    refine zW_ok hj B74_8 8 _ _ _ _ _ b74_8 ?_
    simp only [B74_8, zW, z_wp1, z_ld, z_f0, z_f1, z_f2, z_f3, List.getElem?_cons_zero, List.getElem?_cons_succ, true_and, and_true, Int32.reduceOfInt, z_i10, z_i01, Int32.reduceLT, Int32.reduceLE, Int32.reduceAdd, Int32.reduceSub, z_set, z_set2, z_kil, List.set_cons_zero, List.set_cons_succ, List.take_succ_cons, List.take_zero, List.drop_succ_cons, List.drop_zero, List.reverse_cons, List.reverse_nil, List.nil_append, List.cons_append, List.getD_cons_succ, List.getD_cons_zero, List.getD_nil, List.length_cons, List.length_nil, List.map_cons, List.map_nil, List.sum_cons, List.sum_nil, Nat.reduceAdd, Nat.reduceLeDiff, Value.category, Option.toList, true_or, or_true, z_ua, ↓reduceIte, Nat.reduceEqDiff, eq_self, not_true_eq_false, not_false_eq_true, false_implies, true_implies, Classical.not_not, Nat.le_refl, Nat.zero_le, n12]
    try dsimp only
    refine ⟨fun h => ?_, fun h => ?_⟩
    · refine zW_ok hj B74_28 28 _ _ _ _ _ b74_28 ?_
      simp only [B74_28, zW, z_wp1, z_ld, z_f0, z_f1, z_f2, z_f3, List.getElem?_cons_zero, List.getElem?_cons_succ, true_and, and_true, Int32.reduceOfInt, z_i10, z_i01, Int32.reduceLT, Int32.reduceLE, Int32.reduceAdd, Int32.reduceSub, z_set, z_set2, z_kil, List.set_cons_zero, List.set_cons_succ, List.take_succ_cons, List.take_zero, List.drop_succ_cons, List.drop_zero, List.reverse_cons, List.reverse_nil, List.nil_append, List.cons_append, List.getD_cons_succ, List.getD_cons_zero, List.getD_nil, List.length_cons, List.length_nil, List.map_cons, List.map_nil, List.sum_cons, List.sum_nil, Nat.reduceAdd, Nat.reduceLeDiff, Value.category, Option.toList, true_or, or_true, z_ua, ↓reduceIte, Nat.reduceEqDiff, eq_self, not_true_eq_false, not_false_eq_true, false_implies, true_implies, Classical.not_not, Nat.le_refl, Nat.zero_le, sK38 hS, sK10 hS]
      try dsimp only
      have e : x_ha (x_row (I' 16) (I' 17) mode) fs i cn = blk i := by rw [← hB, x_bk, if_neg h, e16, e17]
      refine z_callD (c75 (I := I') (J := J) hS g4 hc hfs' mode i) (by omega) (by omega) (by omega) (Nat.le_of_ble_eq_true rfl) ?_
      try simp only [zW, z_wp1, z_ld, z_f0, z_f1, z_f2, z_f3, List.getElem?_cons_zero, List.getElem?_cons_succ, true_and, and_true, Int32.reduceOfInt, z_i10, z_i01, Int32.reduceLT, Int32.reduceLE, Int32.reduceAdd, Int32.reduceSub, z_set, z_set2, z_kil, List.set_cons_zero, List.set_cons_succ, List.take_succ_cons, List.take_zero, List.drop_succ_cons, List.drop_zero, List.reverse_cons, List.reverse_nil, List.nil_append, List.cons_append, List.getD_cons_succ, List.getD_cons_zero, List.getD_nil, List.length_cons, List.length_nil, List.map_cons, List.map_nil, List.sum_cons, List.sum_nil, Nat.reduceAdd, Nat.reduceLeDiff, Value.category, Option.toList, true_or, or_true, z_ua, ↓reduceIte, Nat.reduceEqDiff, eq_self, not_true_eq_false, not_false_eq_true, false_implies, true_implies, Classical.not_not, Nat.le_refl, Nat.zero_le, e]
      try dsimp only
      exact body
    · have e : blk i = 0 := by rw [← hB, x_bk, if_pos h]
      rw [e] at body
      exact body
/-- listBlocks -/
theorem c74 (hS : SS K L G) (h4 : I 38 4 = nI cn) (hc : cn ≤ 16) (hfs : ∀ p, p < cn → I 39 p = nI (fs p) ∧ fs p < 16) (mode marks : Int32) : z_Ctr l 2 74 [.ref 38, .ref 10, .int mode, .int marks] (n, K, L, I, J, G) 0 0 (fun r h' => r = none ∧ ∃ I' bc, h' = (n, K, L, I', J, G) ∧ (∀ q, q ≠ 38 → q ≠ 40 → I' q = I q) ∧ (∀ k, k ≠ 7 → I' 38 k = I 38 k) ∧ I' 38 7 = nI bc ∧ bc ≤ 12 ∧ x_bl (I' 40) (x_bk (x_row (I 16) (I 17) mode) fs cn marks) cn bc 12) := by
  refine z_ctr (by decide) (by decide +kernel) (Nat.le_of_ble_eq_true rfl) (by decide +kernel) (fun X hl hj hd hm hs hsc hQ => ?_)
  show zV X 0 [some (.ref 38), some (.ref 10), some (.int mode), some (.int marks), none, none, none] [] _ 0 0
  refine zW_ok hj B74_0 0 _ _ _ _ _ b74_0 ?_
  simp only [B74_0, zW, z_wp1, z_ld, z_f0, z_f1, z_f2, z_f3, List.getElem?_cons_zero, List.getElem?_cons_succ, true_and, and_true, Int32.reduceOfInt, z_i10, z_i01, Int32.reduceLT, Int32.reduceLE, Int32.reduceAdd, Int32.reduceSub, z_set, z_set2, z_kil, List.set_cons_zero, List.set_cons_succ, List.take_succ_cons, List.take_zero, List.drop_succ_cons, List.drop_zero, List.reverse_cons, List.reverse_nil, List.nil_append, List.cons_append, List.getD_cons_succ, List.getD_cons_zero, List.getD_nil, List.length_cons, List.length_nil, List.map_cons, List.map_nil, List.sum_cons, List.sum_nil, Nat.reduceAdd, Nat.reduceLeDiff, Value.category, Option.toList, true_or, or_true, z_ua, ↓reduceIte, Nat.reduceEqDiff, eq_self, not_true_eq_false, not_false_eq_true, false_implies, true_implies, Classical.not_not, Nat.le_refl, Nat.zero_le, sK38 hS]
  try dsimp only
  refine c74_loop (I := I) hS hj hd h4 hc hfs hQ 12 0 0 _ none none (by omega) (fun q a _ => by rw [z_u_ne a]) (fun k hk => by rw [z_u_at, if_neg hk]) (by rw [z_u_at, if_pos rfl, nI_0]) (by omega) ⟨fun b hb => by omega, fun j hj => by omega⟩
theorem c77_in {X : zX} (hS : SS K L G) (hj : X.2.1 = 77) (h7 : I 38 7 = nI bc) (hb : bc ≤ 12) {p : Nat} {all : Int32} (kk : ∀ x3, zV X 64 [some (.ref 38), some (.int (nI p)), some (.int (s_mx (I 40) p all bc)), x3] [] (n, K, L, I, J, G) 0 0) : ∀ k b : Nat, b + k = bc → zV X 17 [some (.ref 38), some (.int (nI p)), some (.int (s_mx (I 40) p all b)), some (.int (nI b))] [] (n, K, L, I, J, G) 0 0
  | 0, b, hk => by
    have e : b = bc := by omega
    subst e
    refine zW_ok hj B77_17 17 _ _ _ _ _ b77_17 ?_
    simp only [B77_17, zW, z_wp1, z_ld, z_f0, z_f1, z_f2, z_f3, List.getElem?_cons_zero, List.getElem?_cons_succ, true_and, and_true, Int32.reduceOfInt, z_i10, z_i01, Int32.reduceLT, Int32.reduceLE, Int32.reduceAdd, Int32.reduceSub, z_set, z_set2, z_kil, List.set_cons_zero, List.set_cons_succ, List.take_succ_cons, List.take_zero, List.drop_succ_cons, List.drop_zero, List.reverse_cons, List.reverse_nil, List.nil_append, List.cons_append, List.getD_cons_succ, List.getD_cons_zero, List.getD_nil, List.length_cons, List.length_nil, List.map_cons, List.map_nil, List.sum_cons, List.sum_nil, Nat.reduceAdd, Nat.reduceLeDiff, Value.category, Option.toList, true_or, or_true, z_ua, ↓reduceIte, Nat.reduceEqDiff, eq_self, not_true_eq_false, not_false_eq_true, false_implies, true_implies, Classical.not_not, Nat.le_refl, Nat.zero_le, sK38 hS, h7]
    try dsimp only
    exact ⟨fun _ => kk _, fun q => absurd (nI_le (Nat.le_refl _) (by omega)) q⟩
  | k + 1, b, hk => by
    have e1 : (nI b).toNatClampNeg = b := nI_clamp (by omega)
    have v1 : vp_in (nI b) 12 := vp_in_nI (by omega) (by omega)
    have ih := c77_in hS hj h7 hb kk k (b + 1) (by omega)
    rw [s_mx] at ih
    refine zW_ok hj B77_17 17 _ _ _ _ _ b77_17 ?_
    simp only [B77_17, zW, z_wp1, z_ld, z_f0, z_f1, z_f2, z_f3, List.getElem?_cons_zero, List.getElem?_cons_succ, true_and, and_true, Int32.reduceOfInt, z_i10, z_i01, Int32.reduceLT, Int32.reduceLE, Int32.reduceAdd, Int32.reduceSub, z_set, z_set2, z_kil, List.set_cons_zero, List.set_cons_succ, List.take_succ_cons, List.take_zero, List.drop_succ_cons, List.drop_zero, List.reverse_cons, List.reverse_nil, List.nil_append, List.cons_append, List.getD_cons_succ, List.getD_cons_zero, List.getD_nil, List.length_cons, List.length_nil, List.map_cons, List.map_nil, List.sum_cons, List.sum_nil, Nat.reduceAdd, Nat.reduceLeDiff, Value.category, Option.toList, true_or, or_true, z_ua, ↓reduceIte, Nat.reduceEqDiff, eq_self, not_true_eq_false, not_false_eq_true, false_implies, true_implies, Classical.not_not, Nat.le_refl, Nat.zero_le, sK38 hS, h7, sG38_6 hS, sK40 hS, sL40 hS, e1, v1]
    try dsimp only
    refine ⟨fun q => absurd q (nI_ge (by omega) (by omega)), fun _ => ⟨fun h => ?_, fun h => ?_⟩⟩
    · rw [if_pos h] at ih
      refine zW_ok hj B77_48 48 _ _ _ _ _ b77_48 ?_
      simp only [B77_48, zW, z_wp1, z_ld, z_f0, z_f1, z_f2, z_f3, List.getElem?_cons_zero, List.getElem?_cons_succ, true_and, and_true, Int32.reduceOfInt, z_i10, z_i01, Int32.reduceLT, Int32.reduceLE, Int32.reduceAdd, Int32.reduceSub, z_set, z_set2, z_kil, List.set_cons_zero, List.set_cons_succ, List.take_succ_cons, List.take_zero, List.drop_succ_cons, List.drop_zero, List.reverse_cons, List.reverse_nil, List.nil_append, List.cons_append, List.getD_cons_succ, List.getD_cons_zero, List.getD_nil, List.length_cons, List.length_nil, List.map_cons, List.map_nil, List.sum_cons, List.sum_nil, Nat.reduceAdd, Nat.reduceLeDiff, Value.category, Option.toList, true_or, or_true, z_ua, ↓reduceIte, Nat.reduceEqDiff, eq_self, not_true_eq_false, not_false_eq_true, false_implies, true_implies, Classical.not_not, Nat.le_refl, Nat.zero_le, sK38 hS, sG38_6 hS, sK40 hS, sL40 hS, e1, v1]
      try dsimp only
      refine zW_ok hj B77_56 56 _ _ _ _ _ b77_56 ?_
      simp only [B77_56, zW, z_wp1, z_ld, z_f0, z_f1, z_f2, z_f3, List.getElem?_cons_zero, List.getElem?_cons_succ, true_and, and_true, Int32.reduceOfInt, z_i10, z_i01, Int32.reduceLT, Int32.reduceLE, Int32.reduceAdd, Int32.reduceSub, z_set, z_set2, z_kil, List.set_cons_zero, List.set_cons_succ, List.take_succ_cons, List.take_zero, List.drop_succ_cons, List.drop_zero, List.reverse_cons, List.reverse_nil, List.nil_append, List.cons_append, List.getD_cons_succ, List.getD_cons_zero, List.getD_nil, List.length_cons, List.length_nil, List.map_cons, List.map_nil, List.sum_cons, List.sum_nil, Nat.reduceAdd, Nat.reduceLeDiff, Value.category, Option.toList, true_or, or_true, z_ua, ↓reduceIte, Nat.reduceEqDiff, eq_self, not_true_eq_false, not_false_eq_true, false_implies, true_implies, Classical.not_not, Nat.le_refl, Nat.zero_le, nI_1]
      try dsimp only
      exact ih
    · rw [if_neg h] at ih
      refine zW_ok hj B77_56 56 _ _ _ _ _ b77_56 ?_
      simp only [B77_56, zW, z_wp1, z_ld, z_f0, z_f1, z_f2, z_f3, List.getElem?_cons_zero, List.getElem?_cons_succ, true_and, and_true, Int32.reduceOfInt, z_i10, z_i01, Int32.reduceLT, Int32.reduceLE, Int32.reduceAdd, Int32.reduceSub, z_set, z_set2, z_kil, List.set_cons_zero, List.set_cons_succ, List.take_succ_cons, List.take_zero, List.drop_succ_cons, List.drop_zero, List.reverse_cons, List.reverse_nil, List.nil_append, List.cons_append, List.getD_cons_succ, List.getD_cons_zero, List.getD_nil, List.length_cons, List.length_nil, List.map_cons, List.map_nil, List.sum_cons, List.sum_nil, Nat.reduceAdd, Nat.reduceLeDiff, Value.category, Option.toList, true_or, or_true, z_ua, ↓reduceIte, Nat.reduceEqDiff, eq_self, not_true_eq_false, not_false_eq_true, false_implies, true_implies, Classical.not_not, Nat.le_refl, Nat.zero_le, nI_1]
      try dsimp only
      exact ih
theorem c77_out {X : zX} (hS : SS K L G) (hj : X.2.1 = 77) (hd : X.2.2.1 = 1) (h4 : I 38 4 = nI cn) (hc : cn ≤ 16) (h7 : I 38 7 = nI bc) (hb : bc ≤ 12) (hQ : ∀ r h', (r = none ∧ ∃ I', h' = (n, K, L, I', J, G) ∧ (∀ q, q ≠ 41 → I' q = I q) ∧ ∀ p, p < cn → I' 41 p = s_mx (I 40) p (nI (2 ^ cn - 1)) bc) → X.2.2.2.2.2.2 r h') : ∀ (k p : Nat) (I' : Nat → Nat → Int32) (x2 x3 : Option Value), p + k = cn → (∀ q, q ≠ 41 → I' q = I q) → (∀ g, g < p → I' 41 g = s_mx (I 40) g (nI (2 ^ cn - 1)) bc) → zV X 2 [some (.ref 38), some (.int (nI p)), x2, x3] [] (n, K, L, I', J, G) 0 0
  | 0, p, I', x2, x3, hk, ho, hg => by
    have e : p = cn := by omega
    subst e
    have g38 : I' 38 = I 38 := ho 38 (by decide)
    refine zW_ok hj B77_2 2 _ _ _ _ _ b77_2 ?_
    simp only [B77_2, zW, z_wp1, z_ld, z_f0, z_f1, z_f2, z_f3, List.getElem?_cons_zero, List.getElem?_cons_succ, true_and, and_true, Int32.reduceOfInt, z_i10, z_i01, Int32.reduceLT, Int32.reduceLE, Int32.reduceAdd, Int32.reduceSub, z_set, z_set2, z_kil, List.set_cons_zero, List.set_cons_succ, List.take_succ_cons, List.take_zero, List.drop_succ_cons, List.drop_zero, List.reverse_cons, List.reverse_nil, List.nil_append, List.cons_append, List.getD_cons_succ, List.getD_cons_zero, List.getD_nil, List.length_cons, List.length_nil, List.map_cons, List.map_nil, List.sum_cons, List.sum_nil, Nat.reduceAdd, Nat.reduceLeDiff, Value.category, Option.toList, true_or, or_true, z_ua, ↓reduceIte, Nat.reduceEqDiff, eq_self, not_true_eq_false, not_false_eq_true, false_implies, true_implies, Classical.not_not, Nat.le_refl, Nat.zero_le, sK38 hS, g38, h4]
    try dsimp only
    refine ⟨fun _ => ?_, fun q => absurd (nI_le (Nat.le_refl _) (by omega)) q⟩
    refine zW_ok hj B77_77 77 _ _ _ _ _ b77_77 ?_
    simp only [B77_77, zW, z_wp1, z_ld, z_f0, z_f1, z_f2, z_f3, List.getElem?_cons_zero, List.getElem?_cons_succ, true_and, and_true, Int32.reduceOfInt, z_i10, z_i01, Int32.reduceLT, Int32.reduceLE, Int32.reduceAdd, Int32.reduceSub, z_set, z_set2, z_kil, List.set_cons_zero, List.set_cons_succ, List.take_succ_cons, List.take_zero, List.drop_succ_cons, List.drop_zero, List.reverse_cons, List.reverse_nil, List.nil_append, List.cons_append, List.getD_cons_succ, List.getD_cons_zero, List.getD_nil, List.length_cons, List.length_nil, List.map_cons, List.map_nil, List.sum_cons, List.sum_nil, Nat.reduceAdd, Nat.reduceLeDiff, Value.category, Option.toList, true_or, or_true, z_ua, ↓reduceIte, Nat.reduceEqDiff, eq_self, not_true_eq_false, not_false_eq_true, false_implies, true_implies, Classical.not_not, Nat.le_refl, Nat.zero_le]
    try dsimp only
    exact hQ _ _ ⟨rfl, I', rfl, ho, hg⟩
  | k + 1, p, I', x2, x3, hk, ho, hg => by
    have g38 : I' 38 = I 38 := ho 38 (by decide)
    have g40 : I' 40 = I 40 := ho 40 (by decide)
    have e1 : (nI p).toNatClampNeg = p := nI_clamp (by omega)
    have v1 : vp_in (nI p) 16 := vp_in_nI (by omega) (by omega)
    refine zW_ok hj B77_2 2 _ _ _ _ _ b77_2 ?_
    simp only [B77_2, zW, z_wp1, z_ld, z_f0, z_f1, z_f2, z_f3, List.getElem?_cons_zero, List.getElem?_cons_succ, true_and, and_true, Int32.reduceOfInt, z_i10, z_i01, Int32.reduceLT, Int32.reduceLE, Int32.reduceAdd, Int32.reduceSub, z_set, z_set2, z_kil, List.set_cons_zero, List.set_cons_succ, List.take_succ_cons, List.take_zero, List.drop_succ_cons, List.drop_zero, List.reverse_cons, List.reverse_nil, List.nil_append, List.cons_append, List.getD_cons_succ, List.getD_cons_zero, List.getD_nil, List.length_cons, List.length_nil, List.map_cons, List.map_nil, List.sum_cons, List.sum_nil, Nat.reduceAdd, Nat.reduceLeDiff, Value.category, Option.toList, true_or, or_true, z_ua, ↓reduceIte, Nat.reduceEqDiff, eq_self, not_true_eq_false, not_false_eq_true, false_implies, true_implies, Classical.not_not, Nat.le_refl, Nat.zero_le, sK38 hS, g38, h4]
    try dsimp only
    refine ⟨fun q => absurd q (nI_ge (by omega) (by omega)), fun _ => ?_⟩
    refine z_callD (c78 (I := I') (J := J) hS (by rw [g38]; exact h4) hc) (by omega) (by omega) (by omega) (Nat.le_of_ble_eq_true rfl) ?_
    try simp only [zW, z_wp1, z_ld, z_f0, z_f1, z_f2, z_f3, List.getElem?_cons_zero, List.getElem?_cons_succ, true_and, and_true, Int32.reduceOfInt, z_i10, z_i01, Int32.reduceLT, Int32.reduceLE, Int32.reduceAdd, Int32.reduceSub, z_set, z_set2, z_kil, List.set_cons_zero, List.set_cons_succ, List.take_succ_cons, List.take_zero, List.drop_succ_cons, List.drop_zero, List.reverse_cons, List.reverse_nil, List.nil_append, List.cons_append, List.getD_cons_succ, List.getD_cons_zero, List.getD_nil, List.length_cons, List.length_nil, List.map_cons, List.map_nil, List.sum_cons, List.sum_nil, Nat.reduceAdd, Nat.reduceLeDiff, Value.category, Option.toList, true_or, or_true, z_ua, ↓reduceIte, Nat.reduceEqDiff, eq_self, not_true_eq_false, not_false_eq_true, false_implies, true_implies, Classical.not_not, Nat.le_refl, Nat.zero_le, sK38 hS]
    try dsimp only
    refine (c77_in (I := I') (bc := bc) (p := p) (all := nI (2 ^ cn - 1)) hS hj (by rw [g38]; exact h7) hb (fun y => ?_) bc 0 (by omega)).weak (by simp only [z_le, nI_0, s_mx]; simp)
    rw [g40]
    refine zW_ok hj B77_64 64 _ _ _ _ _ b77_64 ?_
    simp only [B77_64, zW, z_wp1, z_ld, z_f0, z_f1, z_f2, z_f3, List.getElem?_cons_zero, List.getElem?_cons_succ, true_and, and_true, Int32.reduceOfInt, z_i10, z_i01, Int32.reduceLT, Int32.reduceLE, Int32.reduceAdd, Int32.reduceSub, z_set, z_set2, z_kil, List.set_cons_zero, List.set_cons_succ, List.take_succ_cons, List.take_zero, List.drop_succ_cons, List.drop_zero, List.reverse_cons, List.reverse_nil, List.nil_append, List.cons_append, List.getD_cons_succ, List.getD_cons_zero, List.getD_nil, List.length_cons, List.length_nil, List.map_cons, List.map_nil, List.sum_cons, List.sum_nil, Nat.reduceAdd, Nat.reduceLeDiff, Value.category, Option.toList, true_or, or_true, z_ua, ↓reduceIte, Nat.reduceEqDiff, eq_self, not_true_eq_false, not_false_eq_true, false_implies, true_implies, Classical.not_not, Nat.le_refl, Nat.zero_le, sK38 hS, sG38_8 hS, sK41 hS, sL41 hS, e1, v1, nI_1]
    try dsimp only
    refine c77_out hS hj hd h4 hc h7 hb hQ k (p + 1) _ _ _ (by omega) (fun q hq => by rw [z_u_ne hq]; exact ho q hq) (fun g hg' => ?_)
    rw [z_u_at]
    by_cases z : g = p
    · rw [if_pos z, z]
    · rw [if_neg z]; exact hg g (by omega)
/-- listMates -/
theorem c77 (hS : SS K L G) (h4 : I 38 4 = nI cn) (hc : cn ≤ 16) (h7 : I 38 7 = nI bc) (hb : bc ≤ 12) : z_Ctr l 1 77 [.ref 38] (n, K, L, I, J, G) 0 0 (fun r h' => r = none ∧ ∃ I', h' = (n, K, L, I', J, G) ∧ (∀ q, q ≠ 41 → I' q = I q) ∧ ∀ p, p < cn → I' 41 p = s_mx (I 40) p (nI (2 ^ cn - 1)) bc) := by
  refine z_ctr (by decide) (by decide +kernel) (Nat.le_of_ble_eq_true rfl) (by decide +kernel) (fun X hl hj hd hm hs hsc hQ => ?_)
  show zV X 0 [some (.ref 38), none, none, none] [] _ 0 0
  refine zW_ok hj B77_0 0 _ _ _ _ _ b77_0 ?_
  simp only [B77_0, zW, z_wp1, z_ld, z_f0, z_f1, z_f2, z_f3, List.getElem?_cons_zero, List.getElem?_cons_succ, true_and, and_true, Int32.reduceOfInt, z_i10, z_i01, Int32.reduceLT, Int32.reduceLE, Int32.reduceAdd, Int32.reduceSub, z_set, z_set2, z_kil, List.set_cons_zero, List.set_cons_succ, List.take_succ_cons, List.take_zero, List.drop_succ_cons, List.drop_zero, List.reverse_cons, List.reverse_nil, List.nil_append, List.cons_append, List.getD_cons_succ, List.getD_cons_zero, List.getD_nil, List.length_cons, List.length_nil, List.map_cons, List.map_nil, List.sum_cons, List.sum_nil, Nat.reduceAdd, Nat.reduceLeDiff, Value.category, Option.toList, true_or, or_true, z_ua, ↓reduceIte, Nat.reduceEqDiff, eq_self, not_true_eq_false, not_false_eq_true, false_implies, true_implies, Classical.not_not, Nat.le_refl, Nat.zero_le]
  try dsimp only
  exact c77_out hS hj hd h4 hc h7 hb hQ cn 0 I none none (by omega) (fun _ _ => rfl) (fun g hg => by omega)
end SER9
