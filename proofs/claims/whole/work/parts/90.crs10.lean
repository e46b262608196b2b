/-! Crosses of the class: prepare -/
theorem s_fs_ex (F : Nat) (b : Nat → Bool) : ∃ fs, s_fs F b fs := by
  refine ⟨fun p => if h : p < s_rk b F then Classical.choose (s_rk_at h) else 0, fun f hf hb => ?_⟩
  have h := s_rk_lt hf hb
  show (if h : s_rk b f < s_rk b F then Classical.choose (s_rk_at h) else 0) = f
  rw [dif_pos h]
  obtain ⟨h1, h2, h3⟩ := Classical.choose_spec (s_rk_at h)
  rcases Nat.lt_trichotomy (Classical.choose (s_rk_at h)) f with z | z | z
  · have := s_rk_lt z h2
    omega
  · exact z
  · have := s_rk_lt z hb
    omega
theorem c_B.cg {C C' : (Nat → Nat) → Nat} {n : Nat} {b : Nat → Nat} (e : ∀ v, c_P n v → C v = C' v) (h : c_B C n b) : c_B C' n b := ⟨h.1, fun v hv => by rw [← e v hv, ← e b h.1]; exact h.2.1 v hv, fun v hv hl => by rw [← e v hv, ← e b h.1]; exact h.2.2 v hv hl⟩
theorem nI_back (x : Int32) : nI x.toBitVec.toNat = x := Int32.toBitVec_inj.mp (by
  show BitVec.ofNat 32 x.toBitVec.toNat = x.toBitVec
  rw [BitVec.ofNat_toNat, BitVec.setWidth_eq])
theorem c_C_le {h : Nat → Nat → Bool} {n : Nat} (v : Nat → Nat) : ∀ m, c_C h n m v ≤ n * m
  | 0 => Nat.zero_le _
  | m + 1 => by
    have ih := c_C_le (h := h) (n := n) v m
    have := s_rk_n (fun x => h m (v x)) n
    unfold c_C at ih ⊢
    rw [s_sum, Nat.mul_add, Nat.mul_one]
    omega
theorem x_ha_at {mo : Nat → Int32} {i cn p : Nat} (hi : i < 32) (hc : cn ≤ 16) (hp : p < cn) : zb (x_ha mo (fun p => p) i cn) p = zb (mo p) i := by
  have h := x_ha_b (row := mo) (fs := fun p => p) hi (q := p) hc
  cases e : zb (mo p) i with
  | true => exact h.mpr ⟨hp, e⟩
  | false =>
    cases e2 : zb (x_ha mo (fun p => p) i cn) p with
    | false => rfl
    | true => have := (h.mp e2).2; rw [e] at this; cases this
theorem x_ha_rk {mo : Nat → Int32} {i cn : Nat} (hi : i < 32) (hc : cn ≤ 16) : s_rk (zb (x_ha mo (fun p => p) i cn)) 16 = s_rk (fun p => zb (mo p) i) cn := by
  rw [s_rk_ext (m := cn) (fun p hp => ?_) hc]
  · exact s_rk_congr (fun p hp => x_ha_at hi hc hp)
  · cases e : zb (x_ha mo (fun p => p) i cn) p with
    | false => rfl
    | true => have := ((x_ha_b hi hc).mp e).1; omega
/-- the marks that don't count cost nothing -/
theorem x_hl_C {I : Nat → Nat → Int32} {mo : Nat → Int32} {cn : Nat} (hc : cn ≤ 16) (hl : x_hl I mo cn 12) {v : Nat → Nat} (hv : c_P cn v) : c_C (xH I) cn (s_rk (x_cd mo cn) 12) v = c_C (fun i p => zb (mo p) i) cn 12 v := by
  obtain ⟨fi, hfi⟩ := s_fs_ex 12 (x_cd mo cn)
  unfold c_C
  rw [s_sum_rk hfi (g := fun i => s_rk (fun x => zb (mo (v x)) i) cn - c_l (fun x => zb (mo (v x)) i) cn) (fun i hi hcd => ?_) 12 (Nat.le_refl _)]
  · refine s_sum_congr (fun m hm => ?_)
    obtain ⟨f1, f2, f3⟩ := hfi.at hm
    have h47 := (hl (fi m) f1 f2).1
    rw [f3] at h47
    have e : ∀ x, x < cn → xH I m (v x) = zb (mo (v x)) (fi m) := fun x hx => by
      rw [xH, h47]
      exact x_ha_at (by omega) hc (hv.1 x hx)
    rw [s_rk_congr e, c_l_congr e]
  · have er := x_ha_rk (mo := mo) (i := i) (cn := cn) (by omega) hc
    have hr := hv.rk (fun p => zb (mo p) i)
    rw [x_cd, er] at hcd
    show s_rk (fun x => zb (mo (v x)) i) cn - c_l (fun x => zb (mo (v x)) i) cn = 0
    by_cases h1 : s_rk (fun p => zb (mo p) i) cn ≤ 1
    · rw [c_l_few (by rw [hr]; exact h1)]
      omega
    · have h2 : cn ≤ s_rk (fun p => zb (mo p) i) cn := by
        simp at hcd
        omega
      have := c_l_all (b := fun x => zb (mo (v x)) i) (k := cn) (fun j hj => s_rk_all (b := fun p => zb (mo p) i) h2 (hv.1 j hj))
      omega
/-- what prepare has found -/
def x_pc (I : Nat → Nat → Int32) (row : Nat → Int32) (set marks : Int32) (fs be : Nat → Nat) : Prop := s_fs 16 (zb set) fs ∧ (∀ p, p < s_rk (zb set) 16 → I 44 p = nI (fs p) ∧ fs p < 16) ∧ I 43 4 = nI (s_rk (zb set) 16) ∧ (∀ i, i < s_rk (zb set) 16 → I 52 i = nI (be i)) ∧ I 43 15 = nI (c_C (fun i p => zb (row (fs p) &&& marks) i) (s_rk (zb set) 16) 12 be) ∧ c_B (c_C (fun i p => zb (row (fs p) &&& marks) i) (s_rk (zb set) 16) 12) (s_rk (zb set) 16) be
theorem c_C_h {h h' : Nat → Nat → Bool} {n m : Nat} {v : Nat → Nat} (e : ∀ i x, i < m → x < n → h i (v x) = h' i (v x)) : c_C h n m v = c_C h' n m v := by
  unfold c_C
  refine s_sum_congr (fun i hi => ?_)
  rw [c_l_congr (fun x hx => e i x hi hx), s_rk_congr (fun x hx => e i x hi hx)]
theorem x_fin {I : Nat → Nat → Int32} {mo row lm : Nat → Int32} {marks : Int32} {fs be be' : Nat → Nat} {cn ls : Nat} (hc : cn ≤ 16) (hl : x_hl I mo cn 12) (hmo : ∀ p, p < cn → mo p = row (fs p) &&& marks) (hlm : ∀ p, p < cn → lm p = x_lm mo p p) (him : c_im (c_C (xH I) cn (s_rk (x_cd mo cn) 12)) cn (c_S lm cn be 0) (c_E cn be 0) (cn * s_rk (x_cd mo cn) 12 + 1) be ls be') : c_B (c_C (fun i p => zb (row (fs p) &&& marks) i) cn 12) cn be' ∧ ls = c_C (fun i p => zb (row (fs p) &&& marks) i) cn 12 be' := by
  have eC : ∀ v, c_P cn v → c_C (xH I) cn (s_rk (x_cd mo cn) 12) v = c_C (fun i p => zb (row (fs p) &&& marks) i) cn 12 v := fun v hv => by
    rw [x_hl_C hc hl hv]
    exact c_C_h (fun i x _ hx => by rw [hmo (v x) (hv.1 x hx)])
  have hB := c_im_B hc (fun p q hp hz => ?_) (fun v hv => Nat.lt_succ_of_le (c_C_le (h := xH I) (n := cn) v _)) him
  · exact ⟨hB.1.cg eC, by rw [hB.2, eC _ hB.1.1]⟩
  · rw [hlm p hp] at hz
    obtain ⟨z1, z2⟩ := (x_lm_b (by omega)).mp hz
    refine ⟨z1, fun m hm => ?_⟩
    obtain ⟨i, i1, i2, i3⟩ := s_rk_at hm
    have h47 := (hl i i1 i2).1
    rw [i3] at h47
    show zb (I 47 m) q = zb (I 47 m) p
    rw [h47, x_ha_at (by omega) hc (by omega), x_ha_at (by omega) hc hp, z2]
section CRS10
variable {l : Launch} {n : Nat} {K L : Nat → Nat} {I : Nat → Nat → Int32} {J : Nat → Nat → Int64} {G : Nat → Nat → Value} {cn : Nat} {fs : Nat → Nat}
theorem c1o (hS : SS K L G) {mode set marks : Int32} (h : I 43 0 = I 10 10 ∧ I 43 1 = mode ∧ I 43 2 = set ∧ I 43 3 = marks) : z_D l 12 1 [.ref 43, .ref 10, .int mode, .int set, .int marks] (n, K, L, I, J, G) none (n, K, L, I, J, G) := by
  refine z_ctr (by decide) (by decide +kernel) (Nat.le_of_ble_eq_true rfl) (by decide +kernel) (fun X hl hj hd hm hs hsc hQ => ?_)
  show zV X 0 [some (.ref 43), some (.ref 10), some (.int mode), some (.int set), some (.int marks), none] [] _ 0 0
  refine zW_ok hj B1_0 0 _ _ _ _ _ b1_0 ?_
  simp only [B1_0, zW, z_wp1, z_ld, z_f0, z_f1, z_f2, z_f3, List.getElem?_cons_zero, List.getElem?_cons_succ, true_and, and_true, Int32.reduceOfInt, z_i10, z_i01, Int32.reduceLT, Int32.reduceLE, Int32.reduceAdd, Int32.reduceSub, z_set, z_set2, z_kil, List.set_cons_zero, List.set_cons_succ, List.take_succ_cons, List.take_zero, List.drop_succ_cons, List.drop_zero, List.reverse_cons, List.reverse_nil, List.nil_append, List.cons_append, List.getD_cons_succ, List.getD_cons_zero, List.getD_nil, List.length_cons, List.length_nil, List.map_cons, List.map_nil, List.sum_cons, List.sum_nil, Nat.reduceAdd, Nat.reduceLeDiff, Value.category, Option.toList, true_or, or_true, z_ua, ↓reduceIte, Nat.reduceEqDiff, eq_self, not_true_eq_false, not_false_eq_true, false_implies, true_implies, Classical.not_not, Nat.le_refl, Nat.zero_le, sK43 hS, sK10 hS, h.1, h.2.1, h.2.2.1, h.2.2.2]
  try dsimp only
  exact hQ _ _ ⟨rfl, rfl⟩
theorem c1_mk {X : zX} (hS : SS K L G) (hj : X.2.1 = 1) (hd : X.2.2.1 = 12) (hm : X.2.2.2.1 = 0) (hs : X.2.2.2.2.1 = 0) (h4 : I 43 4 = nI cn) (hc : cn ≤ 8) (hfs : ∀ p, p < cn → I 44 p = nI (fs p) ∧ fs p < 16) {mode set marks : Int32} (kk : ∀ I' x5, (∀ q, q ≠ 45 → I' q = I q) → (∀ p, p < cn → I' 45 p = x_row (I 16) (I 17) mode (fs p) &&& marks) → zV X 113 [some (.ref 43), some (.ref 10), some (.int mode), some (.int set), some (.int marks), x5] [] (n, K, L, I', J, G) 0 0) : ∀ (k p : Nat) (I' : Nat → Nat → Int32), p + k = cn → (∀ q, q ≠ 45 → I' q = I q) → (∀ g, g < p → I' 45 g = x_row (I 16) (I 17) mode (fs g) &&& marks) → zV X 76 [some (.ref 43), some (.ref 10), some (.int mode), some (.int set), some (.int marks), some (.int (nI p))] [] (n, K, L, I', J, G) 0 0
  | 0, p, I', hk, o1, o2 => by
    have e : p = cn := by omega
    subst e
    have g4 : I' 43 4 = nI p := by rw [o1 43 (by decide)]; exact h4
    refine zW_ok hj B1_76 76 _ _ _ _ _ b1_76 ?_
    simp only [B1_76, zW, z_wp1, z_ld, z_f0, z_f1, z_f2, z_f3, List.getElem?_cons_zero, List.getElem?_cons_succ, true_and, and_true, Int32.reduceOfInt, z_i10, z_i01, Int32.reduceLT, Int32.reduceLE, Int32.reduceAdd, Int32.reduceSub, z_set, z_set2, z_kil, List.set_cons_zero, List.set_cons_succ, List.take_succ_cons, List.take_zero, List.drop_succ_cons, List.drop_zero, List.reverse_cons, List.reverse_nil, List.nil_append, List.cons_append, List.getD_cons_succ, List.getD_cons_zero, List.getD_nil, List.length_cons, List.length_nil, List.map_cons, List.map_nil, List.sum_cons, List.sum_nil, Nat.reduceAdd, Nat.reduceLeDiff, Value.category, Option.toList, true_or, or_true, z_ua, ↓reduceIte, Nat.reduceEqDiff, eq_self, not_true_eq_false, not_false_eq_true, false_implies, true_implies, Classical.not_not, Nat.le_refl, Nat.zero_le, sK43 hS, g4]
    try dsimp only
    exact ⟨fun _ => kk I' _ o1 o2, fun q => absurd (nI_le (Nat.le_refl _) (by omega)) q⟩
  | k + 1, p, I', hk, o1, o2 => by
    have g4 : I' 43 4 = nI cn := by rw [o1 43 (by decide)]; exact h4
    have e16 : I' 16 = I 16 := o1 16 (by decide)
    have e17 : I' 17 = I 17 := o1 17 (by decide)
    have e44 : I' 44 = I 44 := o1 44 (by decide)
    have ep : (nI p).toNatClampNeg = p := nI_clamp (by omega)
    have vp : vp_in (nI p) 8 := vp_in_nI (by omega) (by omega)
    obtain ⟨f1, f2⟩ := hfs p (by omega)
    rw [← e44] at f1
    have cr := c98 (l := X.1) (n := n) (I := I') (J := J) hS f2 mode
    rw [e16, e17] at cr
    refine zW_ok hj B1_76 76 _ _ _ _ _ b1_76 ?_
    simp only [B1_76, zW, z_wp1, z_ld, z_f0, z_f1, z_f2, z_f3, List.getElem?_cons_zero, List.getElem?_cons_succ, true_and, and_true, Int32.reduceOfInt, z_i10, z_i01, Int32.reduceLT, Int32.reduceLE, Int32.reduceAdd, Int32.reduceSub, z_set, z_set2, z_kil, List.set_cons_zero, List.set_cons_succ, List.take_succ_cons, List.take_zero, List.drop_succ_cons, List.drop_zero, List.reverse_cons, List.reverse_nil, List.nil_append, List.cons_append, List.getD_cons_succ, List.getD_cons_zero, List.getD_nil, List.length_cons, List.length_nil, List.map_cons, List.map_nil, List.sum_cons, List.sum_nil, Nat.reduceAdd, Nat.reduceLeDiff, Value.category, Option.toList, true_or, or_true, z_ua, ↓reduceIte, Nat.reduceEqDiff, eq_self, not_true_eq_false, not_false_eq_true, false_implies, true_implies, Classical.not_not, Nat.le_refl, Nat.zero_le, sK43 hS, sK10 hS, g4, sG43_5 hS, sK44 hS, sL44 hS, sG43_6 hS, sK45 hS, sL45 hS, ep, vp, f1]
    try dsimp only
    refine ⟨fun q => absurd q (nI_ge (by omega) (by omega)), fun _ => ?_⟩
    refine z_callD (cr) (by omega) (by omega) (by omega) (Nat.le_of_ble_eq_true rfl) ?_
    try simp only [zW, z_wp1, z_ld, z_f0, z_f1, z_f2, z_f3, List.getElem?_cons_zero, List.getElem?_cons_succ, true_and, and_true, Int32.reduceOfInt, z_i10, z_i01, Int32.reduceLT, Int32.reduceLE, Int32.reduceAdd, Int32.reduceSub, z_set, z_set2, z_kil, List.set_cons_zero, List.set_cons_succ, List.take_succ_cons, List.take_zero, List.drop_succ_cons, List.drop_zero, List.reverse_cons, List.reverse_nil, List.nil_append, List.cons_append, List.getD_cons_succ, List.getD_cons_zero, List.getD_nil, List.length_cons, List.length_nil, List.map_cons, List.map_nil, List.sum_cons, List.sum_nil, Nat.reduceAdd, Nat.reduceLeDiff, Value.category, Option.toList, true_or, or_true, z_ua, ↓reduceIte, Nat.reduceEqDiff, eq_self, not_true_eq_false, not_false_eq_true, false_implies, true_implies, Classical.not_not, Nat.le_refl, Nat.zero_le, ep, vp, nI_1, sK45 hS, sL45 hS]
    try dsimp only
    refine c1_mk hS hj hd hm hs h4 hc hfs kk k (p + 1) _ (by omega) (fun q hq => by rw [z_u_ne hq]; exact o1 q hq) (fun g hg => ?_)
    rw [z_u_at]
    by_cases z : g = p
    · rw [if_pos z, z]
    · rw [if_neg z]; exact o2 g (by omega)
/-- prepare -/
theorem c1a (hS : SS K L G) {mode set marks : Int32} (hne : ¬ (I 43 0 = I 10 10 ∧ I 43 1 = mode ∧ I 43 2 = set ∧ I 43 3 = marks)) (h8 : s_rk (zb set) 16 ≤ 8) : z_Ctr l 12 1 [.ref 43, .ref 10, .int mode, .int set, .int marks] (n, K, L, I, J, G) 0 0 (fun r h' => r = none ∧ ∃ I' fs be, h' = (n, K, L, I', J, G) ∧ (∀ q, ¬ (43 ≤ q ∧ q ≤ 52) → I' q = I q) ∧ I' 43 0 = I 10 10 ∧ I' 43 1 = mode ∧ I' 43 2 = set ∧ I' 43 3 = marks ∧ x_pc I' (x_row (I 16) (I 17) mode) set marks fs be) := by
  refine z_ctr (by decide) (by decide +kernel) (Nat.le_of_ble_eq_true rfl) (by decide +kernel) (fun X hl hj hd hm hs hsc hQ => ?_)
  show zV X 0 [some (.ref 43), some (.ref 10), some (.int mode), some (.int set), some (.int marks), none] [] _ 0 0
  have go : zV X 37 [some (.ref 43), some (.ref 10), some (.int mode), some (.int set), some (.int marks), none] [] (n, K, L, I, J, G) 0 0 := by
    refine zW_ok hj B1_37 37 _ _ _ _ _ b1_37 ?_
    simp only [B1_37, zW, z_wp1, z_ld, z_f0, z_f1, z_f2, z_f3, List.getElem?_cons_zero, List.getElem?_cons_succ, true_and, and_true, Int32.reduceOfInt, z_i10, z_i01, Int32.reduceLT, Int32.reduceLE, Int32.reduceAdd, Int32.reduceSub, z_set, z_set2, z_kil, List.set_cons_zero, List.set_cons_succ, List.take_succ_cons, List.take_zero, List.drop_succ_cons, List.drop_zero, List.reverse_cons, List.reverse_nil, List.nil_append, List.cons_append, List.getD_cons_succ, List.getD_cons_zero, List.getD_nil, List.length_cons, List.length_nil, List.map_cons, List.map_nil, List.sum_cons, List.sum_nil, Nat.reduceAdd, Nat.reduceLeDiff, Value.category, Option.toList, true_or, or_true, z_ua, ↓reduceIte, Nat.reduceEqDiff, eq_self, not_true_eq_false, not_false_eq_true, false_implies, true_implies, Classical.not_not, Nat.le_refl, Nat.zero_le, sK43 hS, sK10 hS, sG43_5 hS, sK44 hS, sL44 hS]
    try dsimp only
    refine z_callQ (c158 (I := z_u (z_u (z_u (z_u I 43 0 (I 10 10)) 43 1 mode) 43 2 set) 43 3 marks) (J := J) (set := set) (sK44 hS) (sL44 hS) h8 (by omega)) (by omega) (by omega) (by omega) (Nat.le_of_ble_eq_true rfl) ?_
    rintro r h' ⟨rfl, I1, rfl, o1, r1⟩
    have e43 : ∀ k, I1 43 k = z_u (z_u (z_u (z_u I 43 0 (I 10 10)) 43 1 mode) 43 2 set) 43 3 marks 43 k := fun k => by rw [o1 43 (by decide)]
    have eq1 : ∀ q, q ≠ 43 → q ≠ 44 → I1 q = I q := fun q a b => by rw [o1 q b, z_u_ne a, z_u_ne a, z_u_ne a, z_u_ne a]
    obtain ⟨fs, hfs1, hfs2⟩ : ∃ fs : Nat → Nat, s_fs 16 (zb set) fs ∧ ∀ p, p < s_rk (zb set) 16 → I1 44 p = nI (fs p) ∧ fs p < 16 := by
      refine ⟨fun p => (I1 44 p).toNatClampNeg, fun f hf hs => ?_, fun p hp => ?_⟩
      · show (I1 44 (s_rk (zb set) f)).toNatClampNeg = f
        rw [r1 f hf hs, nI_clamp (by omega)]
      · obtain ⟨f, h1, h2, h3⟩ := s_rk_at hp
        have := r1 f h1 h2
        rw [h3] at this
        show I1 44 p = nI (I1 44 p).toNatClampNeg ∧ (I1 44 p).toNatClampNeg < 16
        rw [this, nI_clamp (by omega)]
        exact ⟨rfl, h1⟩
    simp only [zW, z_wp1, z_ld, z_f0, z_f1, z_f2, z_f3, List.getElem?_cons_zero, List.getElem?_cons_succ, true_and, and_true, Int32.reduceOfInt, z_i10, z_i01, Int32.reduceLT, Int32.reduceLE, Int32.reduceAdd, Int32.reduceSub, z_set, z_set2, z_kil, List.set_cons_zero, List.set_cons_succ, List.take_succ_cons, List.take_zero, List.drop_succ_cons, List.drop_zero, List.reverse_cons, List.reverse_nil, List.nil_append, List.cons_append, List.getD_cons_succ, List.getD_cons_zero, List.getD_nil, List.length_cons, List.length_nil, List.map_cons, List.map_nil, List.sum_cons, List.sum_nil, Nat.reduceAdd, Nat.reduceLeDiff, Value.category, Option.toList, true_or, or_true, z_ua, ↓reduceIte, Nat.reduceEqDiff, eq_self, not_true_eq_false, not_false_eq_true, false_implies, true_implies, Classical.not_not, Nat.le_refl, Nat.zero_le, sK43 hS, sK10 hS]
    try dsimp only
    generalize hcn : s_rk (zb set) 16 = cn at *
    have hc16 : cn ≤ 16 := by omega
    refine (c1_mk (I := z_u I1 43 4 (nI cn)) (cn := cn) (fs := fs) hS hj hd hm hs (by rw [z_u_at, if_pos rfl]) h8 (fun p hp => by rw [z_u_ne (by decide)]; exact hfs2 p hp) (fun I2 x5 o2 r2 => ?_) cn 0 _ (by omega) (fun _ _ => rfl) (fun g hg => by omega))
    rw [z_u_ne (show (16 : Nat) ≠ 43 by decide), z_u_ne (show (17 : Nat) ≠ 43 by decide), eq1 16 (by decide) (by decide), eq1 17 (by decide) (by decide)] at r2
    have h24 : I2 43 4 = nI cn := by rw [o2 43 (by decide), z_u_at, if_pos rfl]
    subst hl
    refine zW_ok hj B1_113 113 _ _ _ _ _ b1_113 ?_
    simp only [B1_113, zW, z_wp1, z_ld, z_f0, z_f1, z_f2, z_f3, List.getElem?_cons_zero, List.getElem?_cons_succ, true_and, and_true, Int32.reduceOfInt, z_i10, z_i01, Int32.reduceLT, Int32.reduceLE, Int32.reduceAdd, Int32.reduceSub, z_set, z_set2, z_kil, List.set_cons_zero, List.set_cons_succ, List.take_succ_cons, List.take_zero, List.drop_succ_cons, List.drop_zero, List.reverse_cons, List.reverse_nil, List.nil_append, List.cons_append, List.getD_cons_succ, List.getD_cons_zero, List.getD_nil, List.length_cons, List.length_nil, List.map_cons, List.map_nil, List.sum_cons, List.sum_nil, Nat.reduceAdd, Nat.reduceLeDiff, Value.category, Option.toList, true_or, or_true, z_ua, ↓reduceIte, Nat.reduceEqDiff, eq_self, not_true_eq_false, not_false_eq_true, false_implies, true_implies, Classical.not_not, Nat.le_refl, Nat.zero_le, sK43 hS]
    try dsimp only
    refine z_callQ (c2 (I := I2) (J := J) hS h24 h8) (by omega) (by omega) (by omega) (Nat.le_of_ble_eq_true rfl) ?_
    rintro r h' ⟨rfl, I3, rfl, o3, r3⟩
    have h34 : I3 43 4 = nI cn := by rw [o3 43 (by decide)]; exact h24
    have e345 : I3 45 = I2 45 := o3 45 (by decide)
    simp only [zW, z_wp1, z_ld, z_f0, z_f1, z_f2, z_f3, List.getElem?_cons_zero, List.getElem?_cons_succ, true_and, and_true, Int32.reduceOfInt, z_i10, z_i01, Int32.reduceLT, Int32.reduceLE, Int32.reduceAdd, Int32.reduceSub, z_set, z_set2, z_kil, List.set_cons_zero, List.set_cons_succ, List.take_succ_cons, List.take_zero, List.drop_succ_cons, List.drop_zero, List.reverse_cons, List.reverse_nil, List.nil_append, List.cons_append, List.getD_cons_succ, List.getD_cons_zero, List.getD_nil, List.length_cons, List.length_nil, List.map_cons, List.map_nil, List.sum_cons, List.sum_nil, Nat.reduceAdd, Nat.reduceLeDiff, Value.category, Option.toList, true_or, or_true, z_ua, ↓reduceIte, Nat.reduceEqDiff, eq_self, not_true_eq_false, not_false_eq_true, false_implies, true_implies, Classical.not_not, Nat.le_refl, Nat.zero_le, sK43 hS]
    try dsimp only
    refine z_callQ (c3 (I := I3) (J := J) hS h34 h8) (by omega) (by omega) (by omega) (Nat.le_of_ble_eq_true rfl) ?_
    rintro r h' ⟨rfl, I4, rfl, o4, o4', r4, r4x⟩
    rw [e345] at r4 r4x
    have has := s_rk_n (x_cd (I2 45) cn) 12
    generalize hasd : s_rk (x_cd (I2 45) cn) 12 = as at *
    have h44 : I4 43 4 = nI cn := by rw [o4' 4 (by decide)]; exact h34
    have elst : nI cn * nI as + 1 = nI (cn * as + 1) := by rw [nI_mul, nI_1]
    simp only [zW, z_wp1, z_ld, z_f0, z_f1, z_f2, z_f3, List.getElem?_cons_zero, List.getElem?_cons_succ, true_and, and_true, Int32.reduceOfInt, z_i10, z_i01, Int32.reduceLT, Int32.reduceLE, Int32.reduceAdd, Int32.reduceSub, z_set, z_set2, z_kil, List.set_cons_zero, List.set_cons_succ, List.take_succ_cons, List.take_zero, List.drop_succ_cons, List.drop_zero, List.reverse_cons, List.reverse_nil, List.nil_append, List.cons_append, List.getD_cons_succ, List.getD_cons_zero, List.getD_nil, List.length_cons, List.length_nil, List.map_cons, List.map_nil, List.sum_cons, List.sum_nil, Nat.reduceAdd, Nat.reduceLeDiff, Value.category, Option.toList, true_or, or_true, z_ua, ↓reduceIte, Nat.reduceEqDiff, eq_self, not_true_eq_false, not_false_eq_true, false_implies, true_implies, Classical.not_not, Nat.le_refl, Nat.zero_le, sK43 hS, h44, r4, elst]
    try dsimp only
    -- what the search begins with
    have hbits : ∀ m, m < as → ∃ i, i < 12 ∧ I4 47 m = x_ha (I2 45) (fun p => p) i cn ∧ I4 48 m = 0 ∧ I4 49 m = 0 ∧ I4 50 m = nI (s_rk (zb (x_ha (I2 45) (fun p => p) i cn)) 16) := fun m hm => by
      obtain ⟨i, i1, i2, i3⟩ := s_rk_at (s := x_cd (I2 45) cn) (F := 12) (p := m) (by omega)
      have := r4x i i1 i2
      rw [i3] at this
      exact ⟨i, i1, this⟩
    have hXC : XCs (z_u I4 43 15 (nI (cn * as + 1))) as cn := by
      refine ⟨by rw [z_u_at, if_neg (by decide)]; exact h44, h8, by rw [z_u_at, if_neg (by decide)]; exact r4, has, fun p q hp hz => ?_⟩
      rw [z_u_ne (by decide), o4 46 (by decide) (by decide) (by decide) (by decide) (by decide), r3 p hp] at hz
      have := ((x_lm_b (by omega)).mp hz).1
      omega
    have hst0 : c_st (z_u I4 43 15 (nI (cn * as + 1))) as cn (fun i => (I4 52 i).toBitVec.toNat) 0 := by
      refine ⟨fun e he m hm => ?_, fun i hi => by omega⟩
      have e0 : e = 0 := by omega
      subst e0
      obtain ⟨i, i1, i2, i3, i4, i5⟩ := hbits m hm
      rw [Nat.zero_mul, Nat.zero_add, z_u_ne (by decide), z_u_ne (by decide), z_u_ne (by decide), i3, i4, i5]
      refine ⟨rfl, rfl, ?_⟩
      congr 1
      show _ = s_rk (xH (z_u I4 43 15 (nI (cn * as + 1))) m) cn - 0
      have e2 : s_rk (xH (z_u I4 43 15 (nI (cn * as + 1))) m) cn = s_rk (fun p => zb (I2 45 p) i) cn := s_rk_congr (fun p hp => by
        show zb (z_u I4 43 15 (nI (cn * as + 1)) 47 m) p = _
        rw [z_u_ne (by decide), i2]
        exact x_ha_at (by omega) hc16 hp)
      rw [Nat.sub_zero, e2]
      exact x_ha_rk (by omega) hc16
    have ca := c4 (l := X.1) (n := n) (J := J) (as := as) (cn := cn) hS cn 0 (by omega) (fun i => (I4 52 i).toBitVec.toNat) 0 (z_u I4 43 15 (nI (cn * as + 1))) (cn * as + 1) (fun i => (I4 52 i).toBitVec.toNat) hXC ⟨fun i hi => by omega, fun i j hi => by omega⟩ (Nat.two_pow_pos cn) (fun p => by rw [zb_nI (by omega), Nat.zero_testBit]; rfl) hst0 (by rw [z_u_at, if_pos rfl]) (by have := Nat.mul_le_mul h8 has; omega) (fun i hi => by rw [z_u_ne (by decide), nI_back])
    rw [nI_0] at ca
    refine z_callQ ca (by omega) (by omega) (by omega) (Nat.le_of_ble_eq_true rfl) ?_
    rintro r h' ⟨rfl, I5, ls5, be5, rfl, f5, g5, j5, im5⟩
    simp only [zW, z_wp1, z_ld, z_f0, z_f1, z_f2, z_f3, List.getElem?_cons_zero, List.getElem?_cons_succ, true_and, and_true, Int32.reduceOfInt, z_i10, z_i01, Int32.reduceLT, Int32.reduceLE, Int32.reduceAdd, Int32.reduceSub, z_set, z_set2, z_kil, List.set_cons_zero, List.set_cons_succ, List.take_succ_cons, List.take_zero, List.drop_succ_cons, List.drop_zero, List.reverse_cons, List.reverse_nil, List.nil_append, List.cons_append, List.getD_cons_succ, List.getD_cons_zero, List.getD_nil, List.length_cons, List.length_nil, List.map_cons, List.map_nil, List.sum_cons, List.sum_nil, Nat.reduceAdd, Nat.reduceLeDiff, Value.category, Option.toList, true_or, or_true, z_ua, ↓reduceIte, Nat.reduceEqDiff, eq_self, not_true_eq_false, not_false_eq_true, false_implies, true_implies, Classical.not_not, Nat.le_refl, Nat.zero_le]
    try dsimp only
    have eH : xH (z_u I4 43 15 (nI (cn * as + 1))) = xH I4 := by unfold xH; rw [z_u_ne (by decide)]
    have e46 : z_u I4 43 15 (nI (cn * as + 1)) 46 = I3 46 := by rw [z_u_ne (by decide), o4 46 (by decide) (by decide) (by decide) (by decide) (by decide)]
    rw [eH, e46] at im5
    have hB := x_fin (row := x_row (I 16) (I 17) mode) (fs := fs) (marks := marks) hc16 r4x r2 r3 (by rw [hasd]; exact im5)
    have q44 : ∀ p, p < cn → I5 44 p = nI (fs p) ∧ fs p < 16 := fun p hp => by
      rw [f5.1 44 (by decide) (by decide) (by decide) (by decide) (by decide) (by decide), z_u_ne (by decide), o4 44 (by decide) (by decide) (by decide) (by decide) (by decide), o3 44 (by decide), o2 44 (by decide), z_u_ne (by decide)]
      exact hfs2 p hp
    have q43 : ∀ k, k ≠ 15 → k ≠ 9 → k ≠ 4 → I5 43 k = z_u (z_u (z_u (z_u I 43 0 (I 10 10)) 43 1 mode) 43 2 set) 43 3 marks 43 k := fun k a b c => by
      rw [f5.2.1 k a, z_u_at, if_neg a, o4' k b, o3 43 (by decide), o2 43 (by decide), z_u_at, if_neg c, e43]
    refine hQ _ _ ⟨rfl, I5, fs, be5, rfl, fun q hq => ?_, ?_, ?_, ?_, ?_, hfs1, ?_, ?_, ?_, ?_, ?_⟩
    · rw [f5.1 q (by omega) (by omega) (by omega) (by omega) (by omega) (by omega), z_u_ne (by omega), o4 q (by omega) (by omega) (by omega) (by omega) (by omega), o3 q (by omega), o2 q (by omega), z_u_ne (by omega), eq1 q (by omega) (by omega)]
    · rw [q43 0 (by decide) (by decide) (by decide)]; simp [z_u]
    · rw [q43 1 (by decide) (by decide) (by decide)]; simp [z_u]
    · rw [q43 2 (by decide) (by decide) (by decide)]; simp [z_u]
    · rw [q43 3 (by decide) (by decide) (by decide)]; simp [z_u]
    · rw [hcn]; exact q44
    · rw [hcn, f5.2.1 4 (by decide), z_u_at, if_neg (by decide)]; exact h44
    · rw [hcn]; exact j5
    · rw [hcn, g5, hB.2]
    · rw [hcn]; exact hB.1
  refine zW_ok hj B1_0 0 _ _ _ _ _ b1_0 ?_
  simp only [B1_0, zW, z_wp1, z_ld, z_f0, z_f1, z_f2, z_f3, List.getElem?_cons_zero, List.getElem?_cons_succ, true_and, and_true, Int32.reduceOfInt, z_i10, z_i01, Int32.reduceLT, Int32.reduceLE, Int32.reduceAdd, Int32.reduceSub, z_set, z_set2, z_kil, List.set_cons_zero, List.set_cons_succ, List.take_succ_cons, List.take_zero, List.drop_succ_cons, List.drop_zero, List.reverse_cons, List.reverse_nil, List.nil_append, List.cons_append, List.getD_cons_succ, List.getD_cons_zero, List.getD_nil, List.length_cons, List.length_nil, List.map_cons, List.map_nil, List.sum_cons, List.sum_nil, Nat.reduceAdd, Nat.reduceLeDiff, Value.category, Option.toList, true_or, or_true, z_ua, ↓reduceIte, Nat.reduceEqDiff, eq_self, not_true_eq_false, not_false_eq_true, false_implies, true_implies, Classical.not_not, Nat.le_refl, Nat.zero_le, sK43 hS, sK10 hS]
  try dsimp only
  refine ⟨fun _ => go, fun a => ⟨fun _ => go, fun b => ⟨fun _ => go, fun c => ⟨fun _ => go, fun d => absurd ⟨a, b, c, d⟩ hne⟩⟩⟩⟩
end CRS10
