/-! The class's reader: its state, and its small methods -/
/-- a code of the class as the model puts it down -/
def p_g (k : Int32) : Int32 := if k = 17 then 0 else if k = 16 then 1 else if k = 3 then 2 else if k = 4 then 3 else if k = 5 then 4 else if k = 9 then 6 else if k = 10 then 7 else if k = 11 then 8 else if k = 14 then 9 else if k = 13 then 10 else if k = 12 then 11 else 12
def p_f1 (c : Int32 × Int32) : List (Int32 × Int32) := if c.1 = 6 then [(0, c.2), (5, 0)] else [(p_g c.1, c.2)]
def p_fl (zs : List (Int32 × Int32)) : List (Int32 × Int32) := zs.flatMap p_f1
theorem p_fl_app (a b : List (Int32 × Int32)) : p_fl (a ++ b) = p_fl a ++ p_fl b := by unfold p_fl; rw [List.flatMap_append]
theorem p_fl_1 (c : Int32 × Int32) : p_fl [c] = p_f1 c := by unfold p_fl; simp
theorem p_fl_0 : p_fl [] = [] := rfl
/-- codes that can be -/
abbrev x_vc (x : Int32 × Int32) : Prop := x.1 = 17 ∨ ((x.1 = 16 ∨ x.1 = 15) ∧ 0 ≤ x.2 ∧ x.2 < 6) ∨ (x.1 = 6 ∧ ¬ x.2 = 0) ∨ x.1 = 3 ∨ x.1 = 4 ∨ x.1 = 5 ∨ x.1 = 9 ∨ x.1 = 10 ∨ x.1 = 11 ∨ x.1 = 12 ∨ x.1 = 13 ∨ x.1 = 14
def q_ok (zs ys : List (Int32 × Int32)) : Prop := p_fl zs = ys ∧ ∀ x ∈ zs, x_vc x
theorem q_ok.app {a b c d : List (Int32 × Int32)} (h : q_ok a b) (h2 : q_ok c d) : q_ok (a ++ c) (b ++ d) := ⟨by rw [p_fl_app, h.1, h2.1], fun x hx => (List.mem_append.mp hx).elim (h.2 x) (h2.2 x)⟩
theorem q_ok.one {x : Int32 × Int32} {ys : List (Int32 × Int32)} (h : p_f1 x = ys) (hv : x_vc x) : q_ok [x] ys := ⟨by rw [p_fl_1]; exact h, fun y hy => by rw [List.mem_singleton.mp hy]; exact hv⟩
theorem q_ok.nil : q_ok [] [] := ⟨rfl, fun x hx => by cases hx⟩
/-- the text is cut into M tokens -/
def x_cut (I : Nat → Nat → Int32) (t : Nat → Int32) (N M : Nat) : Prop := I 61 3 = nI M ∧ M ≤ 800 ∧ (∀ j, j ≤ M → I 62 j = p_K t N j ∧ I 63 j = nI (p_P t N j)) ∧ (∀ j, j < M → (p_K t N j = 16 ∨ p_K t N j = 17) → I 64 j = p_A t N j) ∧ (∀ j, j < M → ¬ p_K t N j = 0) ∧ p_K t N M = 0
/-- at token i -/
def x_r0 (I : Nat → Nat → Int32) (t : Nat → Int32) (N M i : Nat) : Prop := x_cut I t N M ∧ i ≤ M ∧ I 61 4 = nI i ∧ I 61 5 = p_K t N i ∧ I 61 6 = nI (p_P t N i) ∧ ((p_K t N i = 16 ∨ p_K t N i = 17) → I 61 7 = p_A t N i) ∧ I 60 2 = 0 ∧ I 60 3 = -1
/-- codes put down -/
def x_cd' (I : Nat → Nat → Int32) (cd : Nat) (xs : List (Int32 × Int32)) : Prop := I cd 1 = nI xs.length ∧ ∀ j x, xs[j]? = some x → I (cd + 1) j &&& 31 = x.1 ∧ I (cd + 1) j >>> ((5 : Int32) &&& 31) = x.2
def x_rd (I : Nat → Nat → Int32) (t : Nat → Int32) (N M cd i : Nat) (xs : List (Int32 × Int32)) : Prop := x_r0 I t N M i ∧ x_cd' I cd xs ∧ xs.length ≤ i
/-- what reading changes -/
def x_rf (I I' : Nat → Nat → Int32) (cd : Nat) : Prop := (∀ q, q ≠ 60 → q ≠ 61 → q ≠ cd → q ≠ cd + 1 → I' q = I q) ∧ (∀ k, k ≠ 4 → k ≠ 5 → k ≠ 6 → k ≠ 7 → I' 61 k = I 61 k) ∧ (∀ k, k ≠ 2 → k ≠ 3 → I' 60 k = I 60 k) ∧ ∀ k, k ≠ 1 → I' cd k = I cd k
theorem x_rf.rf (I : Nat → Nat → Int32) (cd : Nat) : x_rf I I cd := ⟨fun _ _ _ _ _ => rfl, fun _ _ _ _ _ => rfl, fun _ _ _ => rfl, fun _ _ => rfl⟩
theorem x_rf.tr {I I1 I2 : Nat → Nat → Int32} {cd : Nat} (h1 : x_rf I I1 cd) (h2 : x_rf I1 I2 cd) : x_rf I I2 cd := ⟨fun q a b c d => (h2.1 q a b c d).trans (h1.1 q a b c d), fun k a b c d => (h2.2.1 k a b c d).trans (h1.2.1 k a b c d), fun k a b => (h2.2.2.1 k a b).trans (h1.2.2.1 k a b), fun k a => (h2.2.2.2 k a).trans (h1.2.2.2 k a)⟩
/-- how reading ends -/
def x_re (t : Nat → Int32) (N M cd i : Nat) (xs : List (Int32 × Int32)) (R : p_R) (r : Option Value) (I' : Nat → Nat → Int32) : Prop := match R with
  | .ok y => r = some (.int 1) ∧ ∃ zs, x_rd I' t N M cd y.1 (xs ++ zs) ∧ q_ok zs y.2 ∧ zs.length + i ≤ y.1
  | .error e => r = some (.int 0) ∧ I' 60 2 = e.1 ∧ I' 60 3 = nI (p_P t N e.2)
abbrev x_rp (n : Nat) (K L : Nat → Nat) (I : Nat → Nat → Int32) (J : Nat → Nat → Int64) (G : Nat → Nat → Value) (t : Nat → Int32) (N M cd i : Nat) (xs : List (Int32 × Int32)) (R : p_R) : Option Value → zH → Prop := fun r h' => ∃ I', h' = (n, K, L, I', J, G) ∧ x_rf I I' cd ∧ x_re t N M cd i xs R r I'
theorem x_re_q {t : Nat → Int32} {N M cd i : Nat} {xs : List (Int32 × Int32)} {I' : Nat → Nat → Int32} {R : p_R} {r : Option Value} (h : x_re t N M cd i xs R r I') : (∃ e, R = .error e ∧ r = some (.int 0) ∧ I' 60 2 = e.1 ∧ I' 60 3 = nI (p_P t N e.2)) ∨ ∃ y, R = .ok y ∧ r = some (.int 1) ∧ ∃ zs, x_rd I' t N M cd y.1 (xs ++ zs) ∧ q_ok zs y.2 ∧ zs.length + i ≤ y.1 := by
  cases R with
  | error e => exact Or.inl ⟨e, rfl, h⟩
  | ok y => exact Or.inr ⟨y, rfl, h⟩
theorem x_r0.lt {I : Nat → Nat → Int32} {t : Nat → Int32} {N M i : Nat} (h : x_r0 I t N M i) (hk : ¬ p_K t N i = 0) : i < M ∧ M ≤ 800 := by
  obtain ⟨h1, h2, _⟩ := h
  refine ⟨?_, h1.2.1⟩
  rcases Nat.lt_or_ge i M with q | q
  · exact q
  · exact absurd (by rw [show i = M by omega]; exact h1.2.2.2.2.2) hk
/-- a code laid, and read again -/
theorem x_pk {k a : Nat} (hk : k < 32) (ha : a < 2 ^ 25) : (nI a <<< ((5 : Int32) &&& 31) ||| nI k) &&& 31 = nI k ∧ (nI a <<< ((5 : Int32) &&& 31) ||| nI k) >>> ((5 : Int32) &&& 31) = nI a := by
  have e1 : nI a <<< ((5 : Int32) &&& 31) = nI (a * 2 ^ 5) := nI_shl (k := 5) (by omega) (by omega)
  have hor : a * 2 ^ 5 ||| k = a * 2 ^ 5 + k := by
    have := Nat.shiftLeft_add_eq_or_of_lt (b := k) (i := 5) (by omega) a
    rw [Nat.shiftLeft_eq] at this
    omega
  have e2 : nI (a * 2 ^ 5) ||| nI k = nI (a * 2 ^ 5 + k) := by rw [nI_or (by omega) (by omega), hor]
  rw [e1, e2]
  constructor
  · rw [show (31 : Int32) = nI 31 from rfl, nI_and (by omega) (by omega)]
    congr 1
    rw [show (31 : Nat) = 2 ^ 5 - 1 from rfl, Nat.and_two_pow_sub_one_eq_mod]
    omega
  · rw [show ((5 : Int32) &&& 31) = (nI 5 &&& 31) from rfl, nI_shr (by omega) (by omega)]
    congr 1
    omega
section XRD
variable {l : Launch} {n : Nat} {K L : Nat → Nat} {I : Nat → Nat → Int32} {J : Nat → Nat → Int64} {G : Nat → Nat → Value} {t : Nat → Int32} {N M i cd : Nat} {xs : List (Int32 × Int32)}
/-- advance -/
theorem c107x (hS : SS K L G) (h0 : x_r0 I t N M i) (hc : x_cd' I cd xs) (h2 : cd = 12 ∨ cd = 65) (hk : ¬ p_K t N i = 0) : z_Ctr l 0 107 [.ref 61] (n, K, L, I, J, G) 0 0 (fun r h' => r = none ∧ ∃ I', h' = (n, K, L, I', J, G) ∧ x_rf I I' cd ∧ x_r0 I' t N M (i + 1) ∧ x_cd' I' cd xs ∧ I' 60 = I 60) := by
  obtain ⟨hiM, hM8⟩ := h0.lt hk
  obtain ⟨⟨u1, u2, u3, u4, u5, u6⟩, g2, g3, g4, g5, g6, g7, g8⟩ := h0
  refine (c107 (l := l) (n := n) (J := J) (I := I) hS u1 u2 g3 (k := i + 1) (nI_1 i) (by omega) (nI_lt hiM (by omega))).mono (fun r h' q => ?_)
  obtain ⟨rfl, rfl⟩ := q
  generalize hI' : z_u (z_u (z_u (z_u I 61 4 (nI (i + 1))) 61 5 (I 62 (i + 1))) 61 6 (I 63 (i + 1))) 61 7 (I 64 (i + 1)) = I'
  have o : ∀ q, q ≠ 61 → I' q = I q := fun q hq => by rw [← hI', z_u_ne hq, z_u_ne hq, z_u_ne hq, z_u_ne hq]
  have f : ∀ k, k ≠ 4 → k ≠ 5 → k ≠ 6 → k ≠ 7 → I' 61 k = I 61 k := fun k a b c d => by rw [← hI', z_u_at, if_neg d, z_u_at, if_neg c, z_u_at, if_neg b, z_u_at, if_neg a]
  refine ⟨rfl, I', rfl, ⟨fun q _ a _ _ => o q a, f, fun k _ _ => by rw [o 60 (by decide)], fun k _ => by rw [o cd (by omega)]⟩, ⟨⟨by rw [f 3 (by decide) (by decide) (by decide) (by decide)]; exact u1, u2, fun j hj => by rw [o 62 (by decide), o 63 (by decide)]; exact u3 j hj, fun j hj => by rw [o 64 (by decide)]; exact u4 j hj, u5, u6⟩, by omega, ?_, ?_, ?_, fun hy => ?_, by rw [o 60 (by decide)]; exact g7, by rw [o 60 (by decide)]; exact g8⟩, ⟨by rw [o cd (by omega)]; exact hc.1, fun j x hj => by rw [o (cd + 1) (by omega)]; exact hc.2 j x hj⟩, o 60 (by decide)⟩
  · rw [← hI', z_u_at, if_neg (by decide), z_u_at, if_neg (by decide), z_u_at, if_neg (by decide), z_u_at, if_pos rfl]
  · rw [← hI', z_u_at, if_neg (by decide), z_u_at, if_neg (by decide), z_u_at, if_pos rfl]; exact (u3 (i + 1) (by omega)).1
  · rw [← hI', z_u_at, if_neg (by decide), z_u_at, if_pos rfl]; exact (u3 (i + 1) (by omega)).2
  · rw [← hI', z_u_at, if_pos rfl]
    refine u4 (i + 1) ?_ hy
    rcases Nat.lt_or_ge (i + 1) M with q | q
    · exact q
    · rw [show i + 1 = M by omega, u6] at hy
      rcases hy with z | z <;> exact absurd z (by decide)
/-- put -/
theorem c49x (hS : SS K L G) (h0 : x_r0 I t N M i) (hc : x_cd' I cd xs) (hl8 : xs.length < 800) (h2 : cd = 12 ∨ cd = 65) {k a : Nat} (hk : k < 32) (ha : a < 2 ^ 25) : z_Ctr l 0 49 [.ref cd, .int (nI k), .int (nI a)] (n, K, L, I, J, G) 0 0 (fun r h' => r = none ∧ ∃ I', h' = (n, K, L, I', J, G) ∧ x_rf I I' cd ∧ x_r0 I' t N M i ∧ x_cd' I' cd (xs ++ [(nI k, nI a)]) ∧ I' 60 = I 60) := by
  refine (c49 (l := l) (n := n) (J := J) (XQ_of hS h2) hc.1 hl8 (nI k) (nI a)).mono (fun r h' q => ?_)
  obtain ⟨rfl, rfl⟩ := q
  generalize hI' : z_u (z_u I (cd + 1) xs.length (nI a <<< ((5 : Int32) &&& 31) ||| nI k)) cd 1 (nI (xs.length + 1)) = I'
  have o : ∀ q, q ≠ cd → q ≠ cd + 1 → I' q = I q := fun q hq hq' => by rw [← hI', z_u_ne hq, z_u_ne hq']
  obtain ⟨⟨u1, u2, u3, u4, u5, u6⟩, g2, g3, g4, g5, g6, g7, g8⟩ := h0
  refine ⟨rfl, I', rfl, ⟨fun q _ _ a b => o q a b, fun k _ _ _ _ => by rw [o 61 (by omega) (by omega)], fun k _ _ => by rw [o 60 (by omega) (by omega)], fun k hk => by rw [← hI', z_u_at, if_neg hk, z_u_ne (by omega)]⟩, ⟨⟨by rw [o 61 (by omega) (by omega)]; exact u1, u2, fun j hj => by rw [o 62 (by omega) (by omega), o 63 (by omega) (by omega)]; exact u3 j hj, fun j hj => by rw [o 64 (by omega) (by omega)]; exact u4 j hj, u5, u6⟩, g2, by rw [o 61 (by omega) (by omega)]; exact g3, by rw [o 61 (by omega) (by omega)]; exact g4, by rw [o 61 (by omega) (by omega)]; exact g5, by rw [o 61 (by omega) (by omega)]; exact g6, by rw [o 60 (by omega) (by omega)]; exact g7, by rw [o 60 (by omega) (by omega)]; exact g8⟩, ⟨by rw [← hI', z_u_at, if_pos rfl, List.length_append]; rfl, fun j x hj => ?_⟩, o 60 (by omega) (by omega)⟩
  rw [← hI', z_u_ne (show cd + 1 ≠ cd by omega), z_u_at]
  by_cases z : j = xs.length
  · subst z
    rw [List.getElem?_append_right (Nat.le_refl _), Nat.sub_self] at hj
    simp at hj
    rw [if_pos rfl, ← hj]
    exact x_pk hk ha
  · have hlt : j < xs.length := by
      have := (List.getElem?_eq_some_iff.mp hj).1
      rw [List.length_append] at this
      simp at this
      omega
    rw [List.getElem?_append_left hlt] at hj
    rw [if_neg z]
    exact hc.2 j x hj
/-- refuse -/
theorem c71 (hS : SS K L G) (k : Int32) : z_D l 0 71 [.ref 60, .int k] (n, K, L, I, J, G) (some (.int 0)) (n, K, L, z_u (z_u I 60 2 k) 60 3 (I 61 6), J, G) := by
  refine z_ctr (by decide) (by decide +kernel) (Nat.le_of_ble_eq_true rfl) (by decide +kernel) (fun X hl hj hd hm hs hsc hQ => ?_)
  show zV X 0 [some (.ref 60), some (.int k)] [] _ 0 0
  refine zW_ok hj B71_0 0 _ _ _ _ _ b71_0 ?_
  simp only [B71_0, zW, z_wp1, z_ld, z_f0, z_f1, z_f2, z_f3, List.getElem?_cons_zero, List.getElem?_cons_succ, true_and, and_true, Int32.reduceOfInt, z_i10, z_i01, Int32.reduceLT, Int32.reduceLE, Int32.reduceAdd, Int32.reduceSub, z_set, z_set2, z_kil, List.set_cons_zero, List.set_cons_succ, List.take_succ_cons, List.take_zero, List.drop_succ_cons, List.drop_zero, List.reverse_cons, List.reverse_nil, List.nil_append, List.cons_append, List.getD_cons_succ, List.getD_cons_zero, List.getD_nil, List.length_cons, List.length_nil, List.map_cons, List.map_nil, List.sum_cons, List.sum_nil, Nat.reduceAdd, Nat.reduceLeDiff, Value.category, Option.toList, true_or, or_true, z_ua, ↓reduceIte, Nat.reduceEqDiff, eq_self, not_true_eq_false, not_false_eq_true, false_implies, true_implies, Classical.not_not, Nat.le_refl, Nat.zero_le, sK60 hS, sG60_0 hS, sK61 hS, sK61 hS]
  try dsimp only
  exact hQ _ _ ⟨rfl, rfl⟩
theorem x_rf_f (I : Nat → Nat → Int32) (a b : Int32) (h2 : cd = 12 ∨ cd = 65) : x_rf I (z_u (z_u I 60 2 a) 60 3 b) cd := ⟨fun q h _ _ _ => by rw [z_u_ne h, z_u_ne h], fun k _ _ _ _ => by rw [z_u_ne (by decide), z_u_ne (by decide)], fun k h h' => by rw [z_u_at, if_neg h', z_u_at, if_neg h], fun k _ => by rw [z_u_ne (by omega), z_u_ne (by omega)]⟩
theorem x_r0.f (h : x_r0 I t N M i) (k : Int32) : z_u (z_u I 60 2 k) 60 3 (I 61 6) 60 2 = k ∧ z_u (z_u I 60 2 k) 60 3 (I 61 6) 60 3 = nI (p_P t N i) := ⟨by rw [z_u_at, if_neg (by decide), z_u_at, if_pos rfl], by rw [z_u_at, if_pos rfl]; exact h.2.2.2.2.1⟩
/-- isArithmetic -/
theorem c68 {h : zH} (k : Int32) : z_D l 0 68 [.int k] h (some (.int (z_b (k = 3 ∨ k = 4 ∨ k = 5 ∨ k = 6)))) h := by
  refine z_ctr (by decide) (by decide +kernel) (Nat.le_of_ble_eq_true rfl) (by decide +kernel) (fun X hl hj hd hm hs hsc hQ => ?_)
  show zV X 0 [some (.int k)] [] _ 0 0
  all_goals (try (refine zW_ok hj B68_0 0 _ _ _ _ _ b68_0 ?_; simp only [B68_0, zW, z_wp1, z_ld, z_f0, z_f1, z_f2, z_f3, List.getElem?_cons_zero, List.getElem?_cons_succ, true_and, and_true, Int32.reduceOfInt, z_i10, z_i01, Int32.reduceLT, Int32.reduceLE, Int32.reduceAdd, Int32.reduceSub, z_set, z_set2, z_kil, List.set_cons_zero, List.set_cons_succ, List.take_succ_cons, List.take_zero, List.drop_succ_cons, List.drop_zero, List.reverse_cons, List.reverse_nil, List.nil_append, List.cons_append, List.getD_cons_succ, List.getD_cons_zero, List.getD_nil, List.length_cons, List.length_nil, List.map_cons, List.map_nil, List.sum_cons, List.sum_nil, Nat.reduceAdd, Nat.reduceLeDiff, Value.category, Option.toList, true_or, or_true, z_ua, ↓reduceIte, Nat.reduceEqDiff, eq_self, not_true_eq_false, not_false_eq_true, false_implies, true_implies, Classical.not_not, Nat.le_refl, Nat.zero_le]; try dsimp only))
  all_goals (repeat' (first | (with_reducible refine And.intro ?_ ?_) | (with_reducible intro _)))
  all_goals (try (refine zW_ok hj B68_21 21 _ _ _ _ _ b68_21 ?_; simp only [B68_21, zW, z_wp1, z_ld, z_f0, z_f1, z_f2, z_f3, List.getElem?_cons_zero, List.getElem?_cons_succ, true_and, and_true, Int32.reduceOfInt, z_i10, z_i01, Int32.reduceLT, Int32.reduceLE, Int32.reduceAdd, Int32.reduceSub, z_set, z_set2, z_kil, List.set_cons_zero, List.set_cons_succ, List.take_succ_cons, List.take_zero, List.drop_succ_cons, List.drop_zero, List.reverse_cons, List.reverse_nil, List.nil_append, List.cons_append, List.getD_cons_succ, List.getD_cons_zero, List.getD_nil, List.length_cons, List.length_nil, List.map_cons, List.map_nil, List.sum_cons, List.sum_nil, Nat.reduceAdd, Nat.reduceLeDiff, Value.category, Option.toList, true_or, or_true, z_ua, ↓reduceIte, Nat.reduceEqDiff, eq_self, not_true_eq_false, not_false_eq_true, false_implies, true_implies, Classical.not_not, Nat.le_refl, Nat.zero_le]; try dsimp only))
  all_goals (repeat' (first | (with_reducible refine And.intro ?_ ?_) | (with_reducible intro _)))
  all_goals (try (refine zW_ok hj B68_25 25 _ _ _ _ _ b68_25 ?_; simp only [B68_25, zW, z_wp1, z_ld, z_f0, z_f1, z_f2, z_f3, List.getElem?_cons_zero, List.getElem?_cons_succ, true_and, and_true, Int32.reduceOfInt, z_i10, z_i01, Int32.reduceLT, Int32.reduceLE, Int32.reduceAdd, Int32.reduceSub, z_set, z_set2, z_kil, List.set_cons_zero, List.set_cons_succ, List.take_succ_cons, List.take_zero, List.drop_succ_cons, List.drop_zero, List.reverse_cons, List.reverse_nil, List.nil_append, List.cons_append, List.getD_cons_succ, List.getD_cons_zero, List.getD_nil, List.length_cons, List.length_nil, List.map_cons, List.map_nil, List.sum_cons, List.sum_nil, Nat.reduceAdd, Nat.reduceLeDiff, Value.category, Option.toList, true_or, or_true, z_ua, ↓reduceIte, Nat.reduceEqDiff, eq_self, not_true_eq_false, not_false_eq_true, false_implies, true_implies, Classical.not_not, Nat.le_refl, Nat.zero_le]; try dsimp only))
  all_goals (repeat' (first | (with_reducible refine And.intro ?_ ?_) | (with_reducible intro _)))
  all_goals (try (refine zW_ok hj B68_26 26 _ _ _ _ _ b68_26 ?_; simp only [B68_26, zW, z_wp1, z_ld, z_f0, z_f1, z_f2, z_f3, List.getElem?_cons_zero, List.getElem?_cons_succ, true_and, and_true, Int32.reduceOfInt, z_i10, z_i01, Int32.reduceLT, Int32.reduceLE, Int32.reduceAdd, Int32.reduceSub, z_set, z_set2, z_kil, List.set_cons_zero, List.set_cons_succ, List.take_succ_cons, List.take_zero, List.drop_succ_cons, List.drop_zero, List.reverse_cons, List.reverse_nil, List.nil_append, List.cons_append, List.getD_cons_succ, List.getD_cons_zero, List.getD_nil, List.length_cons, List.length_nil, List.map_cons, List.map_nil, List.sum_cons, List.sum_nil, Nat.reduceAdd, Nat.reduceLeDiff, Value.category, Option.toList, true_or, or_true, z_ua, ↓reduceIte, Nat.reduceEqDiff, eq_self, not_true_eq_false, not_false_eq_true, false_implies, true_implies, Classical.not_not, Nat.le_refl, Nat.zero_le]; try dsimp only))
  all_goals (repeat' (first | (with_reducible refine And.intro ?_ ?_) | (with_reducible intro _)))
  all_goals (refine hQ _ _ ⟨?_, rfl⟩; simp_all [z_b]; done)
end XRD
