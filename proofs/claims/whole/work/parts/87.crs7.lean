/-! Crosses of the class: keepOrder and search -/
theorem c_u_ext {v w : Nat → Nat} : ∀ {d : Nat}, (∀ i, i < d → v i = w i) → c_u v d = c_u w d
  | 0, _ => rfl
  | d + 1, h => by rw [c_u, c_u, c_u_ext (fun i hi => h i (by omega)), h d (by omega)]
theorem c_up_lt {w : Nat → Nat} {d p i : Nat} (h : i < d) : c_up w d p i = w i := by
  unfold c_up
  rw [if_neg (by omega)]
theorem c_up_at {w : Nat → Nat} {d p : Nat} : c_up w d p d = p := by simp [c_up]
theorem c_up_u {w : Nat → Nat} {d p : Nat} : c_u (c_up w d p) (d + 1) = s_add (c_u w d) p := by
  rw [c_u, c_up_at, c_u_ext (fun i hi => c_up_lt hi)]
theorem c_up_P {n d p : Nat} {w : Nat → Nat} (h : c_Pd n d w) (hp : p < n) (hu : c_u w d p = false) : c_Pd n (d + 1) (c_up w d p) := by
  have hne : ∀ i, i < d → w i ≠ p := fun i hi e => by
    have : c_u w d p = true := c_u_iff.mpr ⟨i, hi, e⟩
    rw [hu] at this
    cases this
  refine ⟨fun i hi => ?_, fun i j hi hj e => ?_⟩
  · unfold c_up
    by_cases z : i = d
    · rw [if_pos z]; exact hp
    · rw [if_neg z]; exact h.1 i (by omega)
  · unfold c_up at e
    by_cases z1 : i = d
    · by_cases z2 : j = d
      · omega
      · rw [if_pos z1, if_neg z2] at e
        exact absurd e.symm (hne j (by omega))
    · by_cases z2 : j = d
      · rw [if_neg z1, if_pos z2] at e
        exact absurd e (hne i (by omega))
      · rw [if_neg z1, if_neg z2] at e
        exact h.2 i j (by omega) (by omega) e
abbrev c_E (n : Nat) (w : Nat → Nat) (d : Nat) (b : Nat → Nat) : Prop := c_P n b ∧ ∀ i, i < d → b i = w i
theorem c_P.cg {n : Nat} {v w : Nat → Nat} (h : c_P n v) (e : ∀ i, i < n → v i = w i) : c_P n w := ⟨fun i hi => by rw [← e i hi]; exact h.1 i hi, fun i j hi hj z => h.2 i j hi hj (by rw [e i hi, e j hj]; exact z)⟩
/-- a step of the loop -/
theorem c_im_st {h : Nat → Nat → Bool} {lm : Nat → Int32} {n m d p ls ls1 ls2 : Nat} {w be be1 be2 : Nat → Nat} (hn : n ≤ 16) (hd : d < n) (h1 : c_im (c_C h n m) n (fun v => c_S lm n w d v ∧ v d < p) (fun b => c_E n w d b ∧ b d < p) ls be ls1 be1) (h2 : c_im (c_C h n m) n (c_S lm n (c_up w d p) (d + 1)) (c_E n (c_up w d p) (d + 1)) ls1 be1 ls2 be2) : c_im (c_C h n m) n (fun v => c_S lm n w d v ∧ v d < p + 1) (fun b => c_E n w d b ∧ b d < p + 1) ls be ls2 be2 := by
  refine h1.tr h2 (fun v hv => ?_) (fun v hv => ⟨hv.1, by have := hv.2; omega⟩) (fun v hv => ⟨⟨hv.1, fun i hi => by rw [hv.2 i (by omega), c_up_lt hi]⟩, by rw [hv.2 d (by omega), c_up_at]; omega⟩) (fun b v hb hv => ?_) (fun b b' e => ⟨fun hb => ⟨⟨hb.1.1.cg e, fun i hi => by rw [← e i (by omega)]; exact hb.1.2 i hi⟩, by rw [← e d hd]; exact hb.2⟩, c_C_ext b b' e⟩)
  · by_cases z : v d = p
    · right
      refine ⟨hv.1.1, fun i hi => ?_⟩
      by_cases y : i = d
      · rw [y, c_up_at, z]
      · rw [c_up_lt (by omega)]; exact hv.1.2 i (by omega)
    · left
      exact ⟨hv.1, by have := hv.2; omega⟩
  · obtain ⟨e1, e2, e3⟩ := c_no1 hd hv
    exact Nat.le_of_lt (c_v_lt hd (hb.1.1.dg hv.1.1 hn) (fun j hj => by rw [hb.1.2 j hj, e2 j hj]) (by rw [e1]; exact hb.2))
section CRS7
variable {l : Launch} {n : Nat} {K L : Nat → Nat} {I : Nat → Nat → Int32} {J : Nat → Nat → Int64} {G : Nat → Nat → Value} {as cn d : Nat} {w : Nat → Nat}
abbrev xH (I : Nat → Nat → Int32) (m p : Nat) : Bool := zb (I 47 m) p
/-- the search at a begin -/
def c_st (I : Nat → Nat → Int32) (as cn : Nat) (w : Nat → Nat) (d : Nat) : Prop := (∀ e, e ≤ d → c_lv I as e (c_lA (xH I) w e) (c_lB (xH I) w e) (c_lT (xH I) cn w e)) ∧ ∀ i, i < d → I 51 i = nI (w i)
theorem c_st.to {I : Nat → Nat → Int32} {as cn d : Nat} {w : Nat → Nat} (h : c_st I as cn w d) : ∀ m, m < as → I 50 m = nI (s_rk (xH I m) cn) := fun m hm => by
  have := (h.1 0 (Nat.zero_le _) m hm).2.2
  rw [Nat.zero_mul, Nat.zero_add] at this
  rw [this]
  rfl
/-- what the search leaves as it was -/
def c_fr (I I' : Nat → Nat → Int32) (d : Nat) : Prop := (∀ q, q ≠ 43 → q ≠ 48 → q ≠ 49 → q ≠ 50 → q ≠ 51 → q ≠ 52 → I' q = I q) ∧ (∀ k, k ≠ 15 → I' 43 k = I 43 k) ∧ (∀ i, i < d → I' 51 i = I 51 i) ∧ ∀ j, j < (d + 1) * 12 → I' 48 j = I 48 j ∧ I' 49 j = I 49 j ∧ I' 50 j = I 50 j
theorem c_fr.rf (I : Nat → Nat → Int32) (d : Nat) : c_fr I I d := ⟨fun _ _ _ _ _ _ _ => rfl, fun _ _ => rfl, fun _ _ => rfl, fun _ _ => ⟨rfl, rfl, rfl⟩⟩
theorem c_fr.tr {I I1 I2 : Nat → Nat → Int32} {d : Nat} (h1 : c_fr I I1 d) (h2 : c_fr I1 I2 d) : c_fr I I2 d := ⟨fun q a b c d e f => (h2.1 q a b c d e f).trans (h1.1 q a b c d e f), fun k a => (h2.2.1 k a).trans (h1.2.1 k a), fun i a => (h2.2.2.1 i a).trans (h1.2.2.1 i a), fun j a => ⟨(h2.2.2.2 j a).1.trans (h1.2.2.2 j a).1, (h2.2.2.2 j a).2.1.trans (h1.2.2.2 j a).2.1, (h2.2.2.2 j a).2.2.trans (h1.2.2.2 j a).2.2⟩⟩
theorem c_fr.le {I I1 : Nat → Nat → Int32} {d e : Nat} (h1 : c_fr I I1 d) (he : e ≤ d) : c_fr I I1 e := ⟨h1.1, h1.2.1, fun i a => h1.2.2.1 i (by omega), fun j a => h1.2.2.2 j (by have := Nat.mul_le_mul_right 12 (show e + 1 ≤ d + 1 by omega); omega)⟩
theorem c_fr.st {I I' : Nat → Nat → Int32} {as cn d : Nat} {w : Nat → Nat} (h : c_fr I I' d) (has : as ≤ 12) (hs : c_st I as cn w d) : c_st I' as cn w d := by
  have e47 : xH I' = xH I := by unfold xH; rw [h.1 47 (by decide) (by decide) (by decide) (by decide) (by decide) (by decide)]
  refine ⟨fun e he m hm => ?_, fun i hi => by rw [h.2.2.1 i hi]; exact hs.2 i hi⟩
  have hlt : e * 12 + m < (d + 1) * 12 := by
    have := Nat.mul_le_mul_right 12 he
    omega
  obtain ⟨a, b, c⟩ := h.2.2.2 (e * 12 + m) hlt
  rw [e47, a, b, c]
  exact hs.1 e he m hm
/-- what stands fast over the search -/
def XCs (I : Nat → Nat → Int32) (as cn : Nat) : Prop := I 43 4 = nI cn ∧ cn ≤ 8 ∧ I 43 9 = nI as ∧ as ≤ 12 ∧ ∀ p q, p < cn → zb (I 46 p) q = true → q < cn
theorem c_fr.XCs {I I' : Nat → Nat → Int32} {as cn d : Nat} (h : c_fr I I' d) (hq : XCs I as cn) : XCs I' as cn := by
  obtain ⟨a, b, c, d, e⟩ := hq
  refine ⟨by rw [h.2.1 4 (by decide)]; exact a, b, by rw [h.2.1 9 (by decide)]; exact c, d, ?_⟩
  rw [h.1 46 (by decide) (by decide) (by decide) (by decide) (by decide) (by decide)]
  exact e
abbrev c4_post (n : Nat) (K L : Nat → Nat) (I : Nat → Nat → Int32) (J : Nat → Nat → Int64) (G : Nat → Nat → Value) (as cn : Nat) (w : Nat → Nat) (d ls : Nat) (be : Nat → Nat) : Option Value → zH → Prop := fun r h' => r = none ∧ ∃ I' ls' be', h' = (n, K, L, I', J, G) ∧ c_fr I I' d ∧ I' 43 15 = nI ls' ∧ (∀ i, i < cn → I' 52 i = nI (be' i)) ∧ c_im (c_C (xH I) cn as) cn (c_S (I 46) cn w d) (c_E cn w d) ls be ls' be'
theorem c_C_bd {h : Nat → Nat → Bool} {n m : Nat} (hn : n ≤ 16) (hm : m ≤ 12) (v : Nat → Nat) : c_C h n m v ≤ 200 := by
  unfold c_C
  have : ∀ m, m ≤ 12 → s_sum (fun i => s_rk (fun x => h i (v x)) n - c_l (fun x => h i (v x)) n) m ≤ m * 16 := fun m => by
    induction m with
    | zero => intro _; exact Nat.le_refl _
    | succ m ih =>
      intro h'
      have := s_rk_n (fun x => h m (v x)) n
      have := ih (by omega)
      rw [s_sum]
      omega
  have := this m hm
  omega
/-- keepOrder -/
theorem c5 (hS : SS K L G) (hq : XCs I as cn) (hP : c_P cn w) (hst : c_st I as cn w cn) {ls : Nat} {be : Nat → Nat} (hls : I 43 15 = nI ls) (hl31 : ls < 2 ^ 31) (hbe : ∀ i, i < cn → I 52 i = nI (be i)) : z_Ctr l 2 5 [.ref 43, .int (nI cn)] (n, K, L, I, J, G) 0 0 (c4_post n K L I J G as cn w cn ls be) := by
  obtain ⟨q1, q2, q3, q4, q5⟩ := id hq
  have hb := c_bd_C (h := xH I) (m := as) hP
  have hC := c_C_bd (h := xH I) (n := cn) (m := as) (by omega) q4 w
  have hle : nI ls ≤ nI (c_C (xH I) cn as w) ↔ ls ≤ c_C (xH I) cn as w := nI_leI hl31 (by omega)
  have hSC : ∀ v, c_S (I 46) cn w cn v → c_C (xH I) cn as v = c_C (xH I) cn as w := fun v hv => c_C_ext v w hv.2
  have ci := c7 (l := l) (n := n) (I := I) (J := J) (d := cn) hS q3 q4 (by omega) (hst.1 cn (Nat.le_refl _)) hst.to (c_lok (by omega) (hP.pd (Nat.le_refl _)))
  rw [show c_sm (c_lA (xH I) w cn) (c_lB (xH I) w cn) (c_lT (xH I) cn w cn) (fun m => s_rk (xH I m) cn) as = c_C (xH I) cn as w from hb] at ci
  refine z_ctr (by decide) (by decide +kernel) (Nat.le_of_ble_eq_true rfl) (by decide +kernel) (fun X hl hj hd hm hs hsc hQ => ?_)
  show zV X 0 [some (.ref 43), some (.int (nI cn)), none] [] _ 0 0
  subst hl
  refine zW_ok hj B5_0 0 _ _ _ _ _ b5_0 ?_
  simp only [B5_0, zW, z_wp1, z_ld, z_f0, z_f1, z_f2, z_f3, List.getElem?_cons_zero, List.getElem?_cons_succ, true_and, and_true, Int32.reduceOfInt, z_i10, z_i01, Int32.reduceLT, Int32.reduceLE, Int32.reduceAdd, Int32.reduceSub, z_set, z_set2, z_kil, List.set_cons_zero, List.set_cons_succ, List.take_succ_cons, List.take_zero, List.drop_succ_cons, List.drop_zero, List.reverse_cons, List.reverse_nil, List.nil_append, List.cons_append, List.getD_cons_succ, List.getD_cons_zero, List.getD_nil, List.length_cons, List.length_nil, List.map_cons, List.map_nil, List.sum_cons, List.sum_nil, Nat.reduceAdd, Nat.reduceLeDiff, Value.category, Option.toList, true_or, or_true, z_ua, ↓reduceIte, Nat.reduceEqDiff, eq_self, not_true_eq_false, not_false_eq_true, false_implies, true_implies, Classical.not_not, Nat.le_refl, Nat.zero_le, sK43 hS]
  try dsimp only
  refine z_callD (ci) (by omega) (by omega) (by omega) (Nat.le_of_ble_eq_true rfl) ?_
  try simp only [zW, z_wp1, z_ld, z_f0, z_f1, z_f2, z_f3, List.getElem?_cons_zero, List.getElem?_cons_succ, true_and, and_true, Int32.reduceOfInt, z_i10, z_i01, Int32.reduceLT, Int32.reduceLE, Int32.reduceAdd, Int32.reduceSub, z_set, z_set2, z_kil, List.set_cons_zero, List.set_cons_succ, List.take_succ_cons, List.take_zero, List.drop_succ_cons, List.drop_zero, List.reverse_cons, List.reverse_nil, List.nil_append, List.cons_append, List.getD_cons_succ, List.getD_cons_zero, List.getD_nil, List.length_cons, List.length_nil, List.map_cons, List.map_nil, List.sum_cons, List.sum_nil, Nat.reduceAdd, Nat.reduceLeDiff, Value.category, Option.toList, true_or, or_true, z_ua, ↓reduceIte, Nat.reduceEqDiff, eq_self, not_true_eq_false, not_false_eq_true, false_implies, true_implies, Classical.not_not, Nat.le_refl, Nat.zero_le, sK43 hS, hls, hle]
  try dsimp only
  refine ⟨fun h => ?_, fun h => ?_⟩
  · refine zW_ok hj B5_36 36 _ _ _ _ _ b5_36 ?_
    simp only [B5_36, zW, z_wp1, z_ld, z_f0, z_f1, z_f2, z_f3, List.getElem?_cons_zero, List.getElem?_cons_succ, true_and, and_true, Int32.reduceOfInt, z_i10, z_i01, Int32.reduceLT, Int32.reduceLE, Int32.reduceAdd, Int32.reduceSub, z_set, z_set2, z_kil, List.set_cons_zero, List.set_cons_succ, List.take_succ_cons, List.take_zero, List.drop_succ_cons, List.drop_zero, List.reverse_cons, List.reverse_nil, List.nil_append, List.cons_append, List.getD_cons_succ, List.getD_cons_zero, List.getD_nil, List.length_cons, List.length_nil, List.map_cons, List.map_nil, List.sum_cons, List.sum_nil, Nat.reduceAdd, Nat.reduceLeDiff, Value.category, Option.toList, true_or, or_true, z_ua, ↓reduceIte, Nat.reduceEqDiff, eq_self, not_true_eq_false, not_false_eq_true, false_implies, true_implies, Classical.not_not, Nat.le_refl, Nat.zero_le]
    try dsimp only
    exact hQ _ _ ⟨rfl, I, ls, be, rfl, c_fr.rf I cn, hls, hbe, c_im.no (fun v hv => by rw [hSC v hv]; exact h)⟩
  · simp only [zW, z_wp1, z_ld, z_f0, z_f1, z_f2, z_f3, List.getElem?_cons_zero, List.getElem?_cons_succ, true_and, and_true, Int32.reduceOfInt, z_i10, z_i01, Int32.reduceLT, Int32.reduceLE, Int32.reduceAdd, Int32.reduceSub, z_set, z_set2, z_kil, List.set_cons_zero, List.set_cons_succ, List.take_succ_cons, List.take_zero, List.drop_succ_cons, List.drop_zero, List.reverse_cons, List.reverse_nil, List.nil_append, List.cons_append, List.getD_cons_succ, List.getD_cons_zero, List.getD_nil, List.length_cons, List.length_nil, List.map_cons, List.map_nil, List.sum_cons, List.sum_nil, Nat.reduceAdd, Nat.reduceLeDiff, Value.category, Option.toList, true_or, or_true, z_ua, ↓reduceIte, Nat.reduceEqDiff, eq_self, not_true_eq_false, not_false_eq_true, false_implies, true_implies, Classical.not_not, Nat.le_refl, Nat.zero_le, sK43 hS, sG43_13 hS, sK51 hS, sL51 hS, sG43_14 hS, sK52 hS, sL52 hS, q1]
    try dsimp only
    have ec : (nI cn).toNatClampNeg = cn := nI_clamp (by omega)
    refine z_copy hj (by omega) (sK52 hS) (sK51 hS) (nI_pos (by omega)) (by rw [ec]; show cn ≤ L 51; rw [sL51 hS]; exact q2) (by rw [ec]; show cn ≤ L 52; rw [sL52 hS]; exact q2) ?_
    rw [ec]
    refine zW_ok hj B5_36 36 _ _ _ _ _ b5_36 ?_
    simp only [B5_36, zW, z_wp1, z_ld, z_f0, z_f1, z_f2, z_f3, List.getElem?_cons_zero, List.getElem?_cons_succ, true_and, and_true, Int32.reduceOfInt, z_i10, z_i01, Int32.reduceLT, Int32.reduceLE, Int32.reduceAdd, Int32.reduceSub, z_set, z_set2, z_kil, List.set_cons_zero, List.set_cons_succ, List.take_succ_cons, List.take_zero, List.drop_succ_cons, List.drop_zero, List.reverse_cons, List.reverse_nil, List.nil_append, List.cons_append, List.getD_cons_succ, List.getD_cons_zero, List.getD_nil, List.length_cons, List.length_nil, List.map_cons, List.map_nil, List.sum_cons, List.sum_nil, Nat.reduceAdd, Nat.reduceLeDiff, Value.category, Option.toList, true_or, or_true, z_ua, ↓reduceIte, Nat.reduceEqDiff, eq_self, not_true_eq_false, not_false_eq_true, false_implies, true_implies, Classical.not_not, Nat.le_refl, Nat.zero_le, z_hI]
    try dsimp only
    have f52 : ∀ i, i < cn → z_w (z_u I 43 15 (nI (c_C (xH I) cn as w))) 52 (va_cpy (z_u I 43 15 (nI (c_C (xH I) cn as w)) 51) (z_u I 43 15 (nI (c_C (xH I) cn as w)) 52) 0 0 cn) 52 i = nI (w i) := fun i hi => by
      rw [z_w_at, va_cpy, if_pos ⟨Nat.zero_le _, by omega⟩, z_u_ne (by decide), Nat.zero_add, Nat.sub_zero]
      exact hst.2 i hi
    refine hQ _ _ ⟨rfl, _, c_C (xH I) cn as w, w, rfl, ⟨fun q a b c d e f => by rw [z_w_ne f, z_u_ne a], fun k hk => by rw [z_w_ne (by decide), z_u_at, if_neg hk], fun i hi => by rw [z_w_ne (by decide), z_u_ne (by decide)], fun j hj => ⟨by rw [z_w_ne (by decide), z_u_ne (by decide)], by rw [z_w_ne (by decide), z_u_ne (by decide)], by rw [z_w_ne (by decide), z_u_ne (by decide)]⟩⟩, by rw [z_w_ne (by decide), z_u_at, if_pos rfl], f52, fun v hv => by rw [hSC v hv]; exact Nat.le_refl _, Or.inr ⟨by omega, hP, ⟨hP, fun _ _ => rfl⟩, rfl, fun v hv hl => ?_⟩⟩
    rw [c_v_congr hv.2] at hl
    omega
end CRS7
