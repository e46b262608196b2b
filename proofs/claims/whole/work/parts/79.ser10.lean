/-! Rows of finds of the class: prepare -/
/-- what prepare lays out -/
def x_pz (I : Nat → Nat → Int32) (row : Nat → Int32) (set marks : Int32) (fs : Nat → Nat) (bc : Nat) : Prop := s_fs 16 (zb set) fs ∧ (∀ p, p < s_rk (zb set) 16 → I 39 p = nI (fs p) ∧ fs p < 16) ∧ I 38 4 = nI (s_rk (zb set) 16) ∧ I 38 7 = nI bc ∧ bc ≤ 12 ∧ x_bl (I 40) (x_bk row fs (s_rk (zb set) 16) marks) (s_rk (zb set) 16) bc 12 ∧ ∀ p, p < s_rk (zb set) 16 → I 41 p = s_mx (I 40) p (nI (2 ^ s_rk (zb set) 16 - 1)) bc
theorem s_rk_n (b : Nat → Bool) (n : Nat) : s_rk b n ≤ n := by
  have := s_rk_le (b := fun _ => true) (b' := b) (n := n) (fun _ _ _ => rfl)
  rw [s_rk_full] at this
  exact this
theorem x_pz.bl {I : Nat → Nat → Int32} {row : Nat → Int32} {set marks : Int32} {fs : Nat → Nat} {bc : Nat} (h : x_pz I row set marks fs bc) : ∀ b, b < bc → ∀ p, zb (I 40 b) p = true → p < s_rk (zb set) 16 := by
  obtain ⟨h1, h2, h3, h4, h5, h6, h7⟩ := h
  intro b hb p hp
  obtain ⟨i, hi, e⟩ := h6.1 b hb
  rw [e, x_bk_b (by omega) (s_rk_n _ _)] at hp
  exact hp.2.1
theorem x_pz.mt {I : Nat → Nat → Int32} {row : Nat → Int32} {set marks : Int32} {fs : Nat → Nat} {bc : Nat} (h : x_pz I row set marks fs bc) : ∀ p, p < s_rk (zb set) 16 → ∀ q, (zb (I 41 p) q = true ↔ q < s_rk (zb set) 16 ∧ s_mt (s_B bc (I 40)) p q) := by
  obtain ⟨h1, h2, h3, h4, h5, h6, h7⟩ := h
  have hc := s_rk_n (zb set) 16
  intro p hp q
  rw [h7 p hp]
  rcases Nat.lt_or_ge q 32 with z | z
  · rw [s_mx_b (by omega) z, z_zs_b hc]
    constructor
    · rintro ⟨a, b⟩
      refine ⟨by simpa using a, fun c hc' => ?_⟩
      obtain ⟨i, hi, rfl⟩ := s_B_mem.mp hc'
      exact b i hi
    · rintro ⟨a, b⟩
      exact ⟨by simpa using a, fun i hi => b _ (s_B_mem.mpr ⟨i, hi, rfl⟩)⟩
  · rw [zb_ge z]
    constructor
    · intro e; cases e
    · rintro ⟨a, b⟩; omega
theorem lN_rnd {R : Nat} (h : R < 2 ^ 18) : lN R + 1 &&& Int64.ofInt 524287 = lN (R + 1) := by
  rw [show (1 : Int64) = lN 1 from rfl, lN_add, show Int64.ofInt 524287 = lN (2 ^ 19 - 1) by decide, lN_and', Nat.and_two_pow_sub_one_eq_mod]
  congr 1
  omega
section SER10
variable {l : Launch} {n : Nat} {K L : Nat → Nat} {I : Nat → Nat → Int32} {J : Nat → Nat → Int64} {G : Nat → Nat → Value} {ca CL cn bc R : Nat}
theorem c73o (hS : SS K L G) {mode set marks : Int32} (h : I 38 0 = I 10 10 ∧ I 38 1 = mode ∧ I 38 2 = set ∧ I 38 3 = marks) : z_D l 3 73 [.ref 38, .ref 10, .int mode, .int set, .int marks] (n, K, L, I, J, G) none (n, K, L, I, J, G) := by
  refine z_ctr (by decide) (by decide +kernel) (Nat.le_of_ble_eq_true rfl) (by decide +kernel) (fun X hl hj hd hm hs hsc hQ => ?_)
  show zV X 0 [some (.ref 38), some (.ref 10), some (.int mode), some (.int set), some (.int marks)] [] _ 0 0
  refine zW_ok hj B73_0 0 _ _ _ _ _ b73_0 ?_
  simp only [B73_0, zW, z_wp1, z_ld, z_f0, z_f1, z_f2, z_f3, List.getElem?_cons_zero, List.getElem?_cons_succ, true_and, and_true, Int32.reduceOfInt, z_i10, z_i01, Int32.reduceLT, Int32.reduceLE, Int32.reduceAdd, Int32.reduceSub, z_set, z_set2, z_kil, List.set_cons_zero, List.set_cons_succ, List.take_succ_cons, List.take_zero, List.drop_succ_cons, List.drop_zero, List.reverse_cons, List.reverse_nil, List.nil_append, List.cons_append, List.getD_cons_succ, List.getD_cons_zero, List.getD_nil, List.length_cons, List.length_nil, List.map_cons, List.map_nil, List.sum_cons, List.sum_nil, Nat.reduceAdd, Nat.reduceLeDiff, Value.category, Option.toList, true_or, or_true, z_ua, ↓reduceIte, Nat.reduceEqDiff, eq_self, not_true_eq_false, not_false_eq_true, false_implies, true_implies, Classical.not_not, Nat.le_refl, Nat.zero_le, sK38 hS, sK10 hS, h.1, h.2.1, h.2.2.1, h.2.2.2]
  try dsimp only
  exact hQ _ _ ⟨rfl, rfl⟩
theorem c73a (hS : SS K L G) {mode set marks : Int32} (hne : ¬ (I 38 0 = I 10 10 ∧ I 38 1 = mode ∧ I 38 2 = set ∧ I 38 3 = marks)) (hg : G 38 9 = .ref ca) (hkp : K ca = 14) (hlp : L ca = CL) (hCL : CL < 2 ^ 31) (hR : J 38 10 = lN R) (hR18 : R < 2 ^ 18) (hle : 2 ^ s_rk (zb set) 16 ≤ CL) : z_Ctr l 3 73 [.ref 38, .ref 10, .int mode, .int set, .int marks] (n, K, L, I, J, G) 0 0 (fun r h' => r = none ∧ ∃ I' fs bc, h' = (n, K, L, I', z_u J 38 10 (lN (R + 1)), G) ∧ (∀ q, q ≠ 38 → q ≠ 39 → q ≠ 40 → q ≠ 41 → I' q = I q) ∧ I' 38 0 = I 10 10 ∧ I' 38 1 = mode ∧ I' 38 2 = set ∧ I' 38 3 = marks ∧ x_pz I' (x_row (I 16) (I 17) mode) set marks fs bc) := by
  have hle2 : nI (2 ^ s_rk (zb set) 16) ≤ Int32.ofNat CL := nI_le hle hCL
  have hcn := s_rk_n (zb set) 16
  refine z_ctr (by decide) (by decide +kernel) (Nat.le_of_ble_eq_true rfl) (by decide +kernel) (fun X hl hj hd hm hs hsc hQ => ?_)
  show zV X 0 [some (.ref 38), some (.ref 10), some (.int mode), some (.int set), some (.int marks)] [] _ 0 0
  have go : zV X 37 [some (.ref 38), some (.ref 10), some (.int mode), some (.int set), some (.int marks)] [] (n, K, L, I, J, G) 0 0 := by
    refine zW_ok hj B73_37 37 _ _ _ _ _ b73_37 ?_
    simp only [B73_37, zW, z_wp1, z_ld, z_f0, z_f1, z_f2, z_f3, List.getElem?_cons_zero, List.getElem?_cons_succ, true_and, and_true, Int32.reduceOfInt, z_i10, z_i01, Int32.reduceLT, Int32.reduceLE, Int32.reduceAdd, Int32.reduceSub, z_set, z_set2, z_kil, List.set_cons_zero, List.set_cons_succ, List.take_succ_cons, List.take_zero, List.drop_succ_cons, List.drop_zero, List.reverse_cons, List.reverse_nil, List.nil_append, List.cons_append, List.getD_cons_succ, List.getD_cons_zero, List.getD_nil, List.length_cons, List.length_nil, List.map_cons, List.map_nil, List.sum_cons, List.sum_nil, Nat.reduceAdd, Nat.reduceLeDiff, Value.category, Option.toList, true_or, or_true, z_ua, ↓reduceIte, Nat.reduceEqDiff, eq_self, not_true_eq_false, not_false_eq_true, false_implies, true_implies, Classical.not_not, Nat.le_refl, Nat.zero_le, sK38 hS, sK10 hS, sG38_5 hS, sK39 hS, sL39 hS]
    try dsimp only
    refine z_callQ (c158 (I := z_u (z_u (z_u (z_u I 38 0 (I 10 10)) 38 1 mode) 38 2 set) 38 3 marks) (J := J) (set := set) (sK39 hS) (sL39 hS) hcn (by omega)) (by omega) (by omega) (by omega) (Nat.le_of_ble_eq_true rfl) ?_
    rintro r h' ⟨rfl, I1, rfl, o1, r1⟩
    have e38 : ∀ k, I1 38 k = z_u (z_u (z_u (z_u I 38 0 (I 10 10)) 38 1 mode) 38 2 set) 38 3 marks 38 k := fun k => by rw [o1 38 (by decide)]
    have eq1 : ∀ q, q ≠ 38 → q ≠ 39 → I1 q = I q := fun q a b => by rw [o1 q b, z_u_ne a, z_u_ne a, z_u_ne a, z_u_ne a]
    obtain ⟨fs, hfs1, hfs2⟩ : ∃ fs : Nat → Nat, s_fs 16 (zb set) fs ∧ ∀ p, p < s_rk (zb set) 16 → I1 39 p = nI (fs p) ∧ fs p < 16 := by
      refine ⟨fun p => (I1 39 p).toNatClampNeg, fun f hf hs => ?_, fun p hp => ?_⟩
      · show (I1 39 (s_rk (zb set) f)).toNatClampNeg = f
        rw [r1 f hf hs, nI_clamp (by omega)]
      · obtain ⟨f, h1, h2, h3⟩ := s_rk_at hp
        have := r1 f h1 h2
        rw [h3] at this
        show I1 39 p = nI (I1 39 p).toNatClampNeg ∧ (I1 39 p).toNatClampNeg < 16
        rw [this, nI_clamp (by omega)]
        exact ⟨rfl, h1⟩
    simp only [zW, z_wp1, z_ld, z_f0, z_f1, z_f2, z_f3, List.getElem?_cons_zero, List.getElem?_cons_succ, true_and, and_true, Int32.reduceOfInt, z_i10, z_i01, Int32.reduceLT, Int32.reduceLE, Int32.reduceAdd, Int32.reduceSub, z_set, z_set2, z_kil, List.set_cons_zero, List.set_cons_succ, List.take_succ_cons, List.take_zero, List.drop_succ_cons, List.drop_zero, List.reverse_cons, List.reverse_nil, List.nil_append, List.cons_append, List.getD_cons_succ, List.getD_cons_zero, List.getD_nil, List.length_cons, List.length_nil, List.map_cons, List.map_nil, List.sum_cons, List.sum_nil, Nat.reduceAdd, Nat.reduceLeDiff, Value.category, Option.toList, true_or, or_true, z_ua, ↓reduceIte, Nat.reduceEqDiff, eq_self, not_true_eq_false, not_false_eq_true, false_implies, true_implies, Classical.not_not, Nat.le_refl, Nat.zero_le, sK38 hS, sK10 hS]
    try dsimp only
    refine z_callQ (c74 (I := z_u I1 38 4 (nI (s_rk (zb set) 16))) (J := J) (cn := s_rk (zb set) 16) (fs := fs) hS (by rw [z_u_at, if_pos rfl]) hcn (fun p hp => by rw [z_u_ne (by decide)]; exact hfs2 p hp) mode marks) (by omega) (by omega) (by omega) (Nat.le_of_ble_eq_true rfl) ?_
    rintro r h' ⟨rfl, I2, bc, rfl, o2, o2', r2, r2b, r2x⟩
    rw [z_u_ne (show (16 : Nat) ≠ 38 by decide), z_u_ne (show (17 : Nat) ≠ 38 by decide), eq1 16 (by decide) (by decide), eq1 17 (by decide) (by decide)] at r2x
    have h24 : I2 38 4 = nI (s_rk (zb set) 16) := by rw [o2' 4 (by decide), z_u_at, if_pos rfl]
    simp only [zW, z_wp1, z_ld, z_f0, z_f1, z_f2, z_f3, List.getElem?_cons_zero, List.getElem?_cons_succ, true_and, and_true, Int32.reduceOfInt, z_i10, z_i01, Int32.reduceLT, Int32.reduceLE, Int32.reduceAdd, Int32.reduceSub, z_set, z_set2, z_kil, List.set_cons_zero, List.set_cons_succ, List.take_succ_cons, List.take_zero, List.drop_succ_cons, List.drop_zero, List.reverse_cons, List.reverse_nil, List.nil_append, List.cons_append, List.getD_cons_succ, List.getD_cons_zero, List.getD_nil, List.length_cons, List.length_nil, List.map_cons, List.map_nil, List.sum_cons, List.sum_nil, Nat.reduceAdd, Nat.reduceLeDiff, Value.category, Option.toList, true_or, or_true, z_ua, ↓reduceIte, Nat.reduceEqDiff, eq_self, not_true_eq_false, not_false_eq_true, false_implies, true_implies, Classical.not_not, Nat.le_refl, Nat.zero_le, sK38 hS, sK10 hS]
    try dsimp only
    refine z_callQ (c77 (I := I2) (J := J) (cn := s_rk (zb set) 16) (bc := bc) hS h24 hcn r2 r2b) (by omega) (by omega) (by omega) (Nat.le_of_ble_eq_true rfl) ?_
    rintro r h' ⟨rfl, I3, rfl, o3, r3⟩
    have e3 : I3 38 = I2 38 := o3 38 (by decide)
    have h34 : I3 38 4 = nI (s_rk (zb set) 16) := by rw [e3]; exact h24
    have fr : ∀ q, q ≠ 38 → q ≠ 39 → q ≠ 40 → q ≠ 41 → I3 q = I q := fun q a b c d => by rw [o3 q d, o2 q a c, z_u_ne a, eq1 q a b]
    have fr38 : ∀ k, k ≠ 7 → k ≠ 4 → I3 38 k = z_u (z_u (z_u (z_u I 38 0 (I 10 10)) 38 1 mode) 38 2 set) 38 3 marks 38 k := fun k a b => by rw [e3, o2' k a, z_u_at, if_neg b, e38]
    have pz : x_pz I3 (x_row (I 16) (I 17) mode) set marks fs bc := ⟨hfs1, fun p hp => by rw [o3 39 (by decide), o2 39 (by decide) (by decide), z_u_ne (by decide)]; exact hfs2 p hp, h34, by rw [e3]; exact r2, r2b, by rw [o3 40 (by decide)]; exact r2x, fun p hp => by rw [o3 40 (by decide)]; exact r3 p hp⟩
    have f0 : I3 38 0 = I 10 10 := by rw [fr38 0 (by decide) (by decide)]; simp [z_u]
    have f1 : I3 38 1 = mode := by rw [fr38 1 (by decide) (by decide)]; simp [z_u]
    have f2 : I3 38 2 = set := by rw [fr38 2 (by decide) (by decide)]; simp [z_u]
    have f3 : I3 38 3 = marks := by rw [fr38 3 (by decide) (by decide)]; simp [z_u]
    simp only [zW, z_wp1, z_ld, z_f0, z_f1, z_f2, z_f3, List.getElem?_cons_zero, List.getElem?_cons_succ, true_and, and_true, Int32.reduceOfInt, z_i10, z_i01, Int32.reduceLT, Int32.reduceLE, Int32.reduceAdd, Int32.reduceSub, z_set, z_set2, z_kil, List.set_cons_zero, List.set_cons_succ, List.take_succ_cons, List.take_zero, List.drop_succ_cons, List.drop_zero, List.reverse_cons, List.reverse_nil, List.nil_append, List.cons_append, List.getD_cons_succ, List.getD_cons_zero, List.getD_nil, List.length_cons, List.length_nil, List.map_cons, List.map_nil, List.sum_cons, List.sum_nil, Nat.reduceAdd, Nat.reduceLeDiff, Value.category, Option.toList, true_or, or_true, z_ua, ↓reduceIte, Nat.reduceEqDiff, eq_self, not_true_eq_false, not_false_eq_true, false_implies, true_implies, Classical.not_not, Nat.le_refl, Nat.zero_le, sK38 hS, hg, hkp, hlp, h34, z_shl1 (show s_rk (zb set) 16 < 17 by omega), hle2]
    try dsimp only
    refine zW_ok hj B73_111 111 _ _ _ _ _ b73_111 ?_
    simp only [B73_111, zW, z_wp1, z_ld, z_f0, z_f1, z_f2, z_f3, List.getElem?_cons_zero, List.getElem?_cons_succ, true_and, and_true, Int32.reduceOfInt, z_i10, z_i01, Int32.reduceLT, Int32.reduceLE, Int32.reduceAdd, Int32.reduceSub, z_set, z_set2, z_kil, List.set_cons_zero, List.set_cons_succ, List.take_succ_cons, List.take_zero, List.drop_succ_cons, List.drop_zero, List.reverse_cons, List.reverse_nil, List.nil_append, List.cons_append, List.getD_cons_succ, List.getD_cons_zero, List.getD_nil, List.length_cons, List.length_nil, List.map_cons, List.map_nil, List.sum_cons, List.sum_nil, Nat.reduceAdd, Nat.reduceLeDiff, Value.category, Option.toList, true_or, or_true, z_ua, ↓reduceIte, Nat.reduceEqDiff, eq_self, not_true_eq_false, not_false_eq_true, false_implies, true_implies, Classical.not_not, Nat.le_refl, Nat.zero_le, sK38 hS, hR, z_l1, lN_rnd hR18, z_hJ]
    try dsimp only
    exact hQ _ _ ⟨rfl, I3, fs, bc, rfl, fr, f0, f1, f2, f3, pz⟩
  refine zW_ok hj B73_0 0 _ _ _ _ _ b73_0 ?_
  simp only [B73_0, zW, z_wp1, z_ld, z_f0, z_f1, z_f2, z_f3, List.getElem?_cons_zero, List.getElem?_cons_succ, true_and, and_true, Int32.reduceOfInt, z_i10, z_i01, Int32.reduceLT, Int32.reduceLE, Int32.reduceAdd, Int32.reduceSub, z_set, z_set2, z_kil, List.set_cons_zero, List.set_cons_succ, List.take_succ_cons, List.take_zero, List.drop_succ_cons, List.drop_zero, List.reverse_cons, List.reverse_nil, List.nil_append, List.cons_append, List.getD_cons_succ, List.getD_cons_zero, List.getD_nil, List.length_cons, List.length_nil, List.map_cons, List.map_nil, List.sum_cons, List.sum_nil, Nat.reduceAdd, Nat.reduceLeDiff, Value.category, Option.toList, true_or, or_true, z_ua, ↓reduceIte, Nat.reduceEqDiff, eq_self, not_true_eq_false, not_false_eq_true, false_implies, true_implies, Classical.not_not, Nat.le_refl, Nat.zero_le, sK38 hS, sK10 hS]
  try dsimp only
  refine ⟨fun _ => go, fun a => ⟨fun _ => go, fun b => ⟨fun _ => go, fun c => ⟨fun _ => go, fun d => absurd ⟨a, b, c, d⟩ hne⟩⟩⟩⟩
theorem c73b (hS : SS K L G) {mode set marks : Int32} (hne : ¬ (I 38 0 = I 10 10 ∧ I 38 1 = mode ∧ I 38 2 = set ∧ I 38 3 = marks)) (hg : G 38 9 = .ref ca) (hkp : K ca = 14) (hlp : L ca = CL) (hCL : CL < 2 ^ 31) (hR : J 38 10 = lN R) (hR18 : R < 2 ^ 18) (hle : ¬ 2 ^ s_rk (zb set) 16 ≤ CL) (hn : 103 ≤ n) : z_Ctr l 3 73 [.ref 38, .ref 10, .int mode, .int set, .int marks] (n, K, L, I, J, G) 1 (2 ^ s_rk (zb set) 16) (fun r h' => r = none ∧ ∃ K' L' I' J1 G' fs bc, h' = (n + 1, K', L', I', z_u J1 38 10 (lN (R + 1)), G') ∧ zGr n K L J G K' L' J1 G' 38 9 9 ∧ G' 38 9 = .ref n ∧ K' n = 14 ∧ L' n = 2 ^ s_rk (zb set) 16 ∧ (∀ t, J1 n t = 0) ∧ (∀ t, I' n t = 0) ∧ (∀ q, q < n → q ≠ 38 → q ≠ 39 → q ≠ 40 → q ≠ 41 → I' q = I q) ∧ I' 38 0 = I 10 10 ∧ I' 38 1 = mode ∧ I' 38 2 = set ∧ I' 38 3 = marks ∧ x_pz I' (x_row (I 16) (I 17) mode) set marks fs bc) := by
  have hle2 : ¬ nI (2 ^ s_rk (zb set) 16) ≤ Int32.ofNat CL := fun h => hle ((nI_leI (by have := z_powF (s_rk_n (zb set) 16); omega) hCL).mp h)
  have hcn := s_rk_n (zb set) 16
  refine z_ctr (by decide) (by decide +kernel) (Nat.le_of_ble_eq_true rfl) (by decide +kernel) (fun X hl hj hd hm hs hsc hQ => ?_)
  show zV X 0 [some (.ref 38), some (.ref 10), some (.int mode), some (.int set), some (.int marks)] [] _ 0 0
  have go : zV X 37 [some (.ref 38), some (.ref 10), some (.int mode), some (.int set), some (.int marks)] [] (n, K, L, I, J, G) 0 0 := by
    refine zW_ok hj B73_37 37 _ _ _ _ _ b73_37 ?_
    simp only [B73_37, zW, z_wp1, z_ld, z_f0, z_f1, z_f2, z_f3, List.getElem?_cons_zero, List.getElem?_cons_succ, true_and, and_true, Int32.reduceOfInt, z_i10, z_i01, Int32.reduceLT, Int32.reduceLE, Int32.reduceAdd, Int32.reduceSub, z_set, z_set2, z_kil, List.set_cons_zero, List.set_cons_succ, List.take_succ_cons, List.take_zero, List.drop_succ_cons, List.drop_zero, List.reverse_cons, List.reverse_nil, List.nil_append, List.cons_append, List.getD_cons_succ, List.getD_cons_zero, List.getD_nil, List.length_cons, List.length_nil, List.map_cons, List.map_nil, List.sum_cons, List.sum_nil, Nat.reduceAdd, Nat.reduceLeDiff, Value.category, Option.toList, true_or, or_true, z_ua, ↓reduceIte, Nat.reduceEqDiff, eq_self, not_true_eq_false, not_false_eq_true, false_implies, true_implies, Classical.not_not, Nat.le_refl, Nat.zero_le, sK38 hS, sK10 hS, sG38_5 hS, sK39 hS, sL39 hS]
    try dsimp only
    refine z_callQ (c158 (I := z_u (z_u (z_u (z_u I 38 0 (I 10 10)) 38 1 mode) 38 2 set) 38 3 marks) (J := J) (set := set) (sK39 hS) (sL39 hS) hcn (by omega)) (by omega) (by omega) (by omega) (Nat.le_of_ble_eq_true rfl) ?_
    rintro r h' ⟨rfl, I1, rfl, o1, r1⟩
    have e38 : ∀ k, I1 38 k = z_u (z_u (z_u (z_u I 38 0 (I 10 10)) 38 1 mode) 38 2 set) 38 3 marks 38 k := fun k => by rw [o1 38 (by decide)]
    have eq1 : ∀ q, q ≠ 38 → q ≠ 39 → I1 q = I q := fun q a b => by rw [o1 q b, z_u_ne a, z_u_ne a, z_u_ne a, z_u_ne a]
    obtain ⟨fs, hfs1, hfs2⟩ : ∃ fs : Nat → Nat, s_fs 16 (zb set) fs ∧ ∀ p, p < s_rk (zb set) 16 → I1 39 p = nI (fs p) ∧ fs p < 16 := by
      refine ⟨fun p => (I1 39 p).toNatClampNeg, fun f hf hs => ?_, fun p hp => ?_⟩
      · show (I1 39 (s_rk (zb set) f)).toNatClampNeg = f
        rw [r1 f hf hs, nI_clamp (by omega)]
      · obtain ⟨f, h1, h2, h3⟩ := s_rk_at hp
        have := r1 f h1 h2
        rw [h3] at this
        show I1 39 p = nI (I1 39 p).toNatClampNeg ∧ (I1 39 p).toNatClampNeg < 16
        rw [this, nI_clamp (by omega)]
        exact ⟨rfl, h1⟩
    simp only [zW, z_wp1, z_ld, z_f0, z_f1, z_f2, z_f3, List.getElem?_cons_zero, List.getElem?_cons_succ, true_and, and_true, Int32.reduceOfInt, z_i10, z_i01, Int32.reduceLT, Int32.reduceLE, Int32.reduceAdd, Int32.reduceSub, z_set, z_set2, z_kil, List.set_cons_zero, List.set_cons_succ, List.take_succ_cons, List.take_zero, List.drop_succ_cons, List.drop_zero, List.reverse_cons, List.reverse_nil, List.nil_append, List.cons_append, List.getD_cons_succ, List.getD_cons_zero, List.getD_nil, List.length_cons, List.length_nil, List.map_cons, List.map_nil, List.sum_cons, List.sum_nil, Nat.reduceAdd, Nat.reduceLeDiff, Value.category, Option.toList, true_or, or_true, z_ua, ↓reduceIte, Nat.reduceEqDiff, eq_self, not_true_eq_false, not_false_eq_true, false_implies, true_implies, Classical.not_not, Nat.le_refl, Nat.zero_le, sK38 hS, sK10 hS]
    try dsimp only
    refine z_callQ (c74 (I := z_u I1 38 4 (nI (s_rk (zb set) 16))) (J := J) (cn := s_rk (zb set) 16) (fs := fs) hS (by rw [z_u_at, if_pos rfl]) hcn (fun p hp => by rw [z_u_ne (by decide)]; exact hfs2 p hp) mode marks) (by omega) (by omega) (by omega) (Nat.le_of_ble_eq_true rfl) ?_
    rintro r h' ⟨rfl, I2, bc, rfl, o2, o2', r2, r2b, r2x⟩
    rw [z_u_ne (show (16 : Nat) ≠ 38 by decide), z_u_ne (show (17 : Nat) ≠ 38 by decide), eq1 16 (by decide) (by decide), eq1 17 (by decide) (by decide)] at r2x
    have h24 : I2 38 4 = nI (s_rk (zb set) 16) := by rw [o2' 4 (by decide), z_u_at, if_pos rfl]
    simp only [zW, z_wp1, z_ld, z_f0, z_f1, z_f2, z_f3, List.getElem?_cons_zero, List.getElem?_cons_succ, true_and, and_true, Int32.reduceOfInt, z_i10, z_i01, Int32.reduceLT, Int32.reduceLE, Int32.reduceAdd, Int32.reduceSub, z_set, z_set2, z_kil, List.set_cons_zero, List.set_cons_succ, List.take_succ_cons, List.take_zero, List.drop_succ_cons, List.drop_zero, List.reverse_cons, List.reverse_nil, List.nil_append, List.cons_append, List.getD_cons_succ, List.getD_cons_zero, List.getD_nil, List.length_cons, List.length_nil, List.map_cons, List.map_nil, List.sum_cons, List.sum_nil, Nat.reduceAdd, Nat.reduceLeDiff, Value.category, Option.toList, true_or, or_true, z_ua, ↓reduceIte, Nat.reduceEqDiff, eq_self, not_true_eq_false, not_false_eq_true, false_implies, true_implies, Classical.not_not, Nat.le_refl, Nat.zero_le, sK38 hS, sK10 hS]
    try dsimp only
    refine z_callQ (c77 (I := I2) (J := J) (cn := s_rk (zb set) 16) (bc := bc) hS h24 hcn r2 r2b) (by omega) (by omega) (by omega) (Nat.le_of_ble_eq_true rfl) ?_
    rintro r h' ⟨rfl, I3, rfl, o3, r3⟩
    have e3 : I3 38 = I2 38 := o3 38 (by decide)
    have h34 : I3 38 4 = nI (s_rk (zb set) 16) := by rw [e3]; exact h24
    have fr : ∀ q, q ≠ 38 → q ≠ 39 → q ≠ 40 → q ≠ 41 → I3 q = I q := fun q a b c d => by rw [o3 q d, o2 q a c, z_u_ne a, eq1 q a b]
    have fr38 : ∀ k, k ≠ 7 → k ≠ 4 → I3 38 k = z_u (z_u (z_u (z_u I 38 0 (I 10 10)) 38 1 mode) 38 2 set) 38 3 marks 38 k := fun k a b => by rw [e3, o2' k a, z_u_at, if_neg b, e38]
    have pz : x_pz I3 (x_row (I 16) (I 17) mode) set marks fs bc := ⟨hfs1, fun p hp => by rw [o3 39 (by decide), o2 39 (by decide) (by decide), z_u_ne (by decide)]; exact hfs2 p hp, h34, by rw [e3]; exact r2, r2b, by rw [o3 40 (by decide)]; exact r2x, fun p hp => by rw [o3 40 (by decide)]; exact r3 p hp⟩
    have f0 : I3 38 0 = I 10 10 := by rw [fr38 0 (by decide) (by decide)]; simp [z_u]
    have f1 : I3 38 1 = mode := by rw [fr38 1 (by decide) (by decide)]; simp [z_u]
    have f2 : I3 38 2 = set := by rw [fr38 2 (by decide) (by decide)]; simp [z_u]
    have f3 : I3 38 3 = marks := by rw [fr38 3 (by decide) (by decide)]; simp [z_u]
    have hp := z_powF hcn
    have e1 : (nI (2 ^ s_rk (zb set) 16)).toNatClampNeg = 2 ^ s_rk (zb set) 16 := nI_clamp (by omega)
    have e2 : ¬ nI (2 ^ s_rk (zb set) 16) < 0 := nI_pos (by omega)
    have kn : ∀ {α : Type} (f : Nat → α) (x : α), z_w f n x 38 = f 38 := fun f x => z_w_ne (by omega)
    simp only [zW, z_wp1, z_ld, z_f0, z_f1, z_f2, z_f3, List.getElem?_cons_zero, List.getElem?_cons_succ, true_and, and_true, Int32.reduceOfInt, z_i10, z_i01, Int32.reduceLT, Int32.reduceLE, Int32.reduceAdd, Int32.reduceSub, z_set, z_set2, z_kil, List.set_cons_zero, List.set_cons_succ, List.take_succ_cons, List.take_zero, List.drop_succ_cons, List.drop_zero, List.reverse_cons, List.reverse_nil, List.nil_append, List.cons_append, List.getD_cons_succ, List.getD_cons_zero, List.getD_nil, List.length_cons, List.length_nil, List.map_cons, List.map_nil, List.sum_cons, List.sum_nil, Nat.reduceAdd, Nat.reduceLeDiff, Value.category, Option.toList, true_or, or_true, z_ua, ↓reduceIte, Nat.reduceEqDiff, eq_self, not_true_eq_false, not_false_eq_true, false_implies, true_implies, Classical.not_not, Nat.le_refl, Nat.zero_le, sK38 hS, hg, hkp, hlp, h34, z_shl1 (show s_rk (zb set) 16 < 17 by omega), hle2, e1, e2, kn]
    try dsimp only
    refine ⟨by omega, by omega, by omega, ?_⟩
    obtain ⟨gr, ga⟩ := zGr_1 (K := K) (L := L) (J := J) (G := G) (a := 9) (kd := 14) (len := 2 ^ s_rk (zb set) 16) (show 38 < n by omega)
    have hS' := gr.SS hn (Or.inr (Or.inl ⟨rfl, rfl, rfl⟩)) hS
    have k38 := sK38 hS'
    have hR2 : z_w J n (fun _ => 0) 38 10 = lN R := by rw [z_w_ne (by omega)]; exact hR
    refine zW_ok hj B73_111 111 _ _ _ _ _ b73_111 ?_
    simp only [B73_111, zW, z_wp1, z_ld, z_f0, z_f1, z_f2, z_f3, List.getElem?_cons_zero, List.getElem?_cons_succ, true_and, and_true, Int32.reduceOfInt, z_i10, z_i01, Int32.reduceLT, Int32.reduceLE, Int32.reduceAdd, Int32.reduceSub, z_set, z_set2, z_kil, List.set_cons_zero, List.set_cons_succ, List.take_succ_cons, List.take_zero, List.drop_succ_cons, List.drop_zero, List.reverse_cons, List.reverse_nil, List.nil_append, List.cons_append, List.getD_cons_succ, List.getD_cons_zero, List.getD_nil, List.length_cons, List.length_nil, List.map_cons, List.map_nil, List.sum_cons, List.sum_nil, Nat.reduceAdd, Nat.reduceLeDiff, Value.category, Option.toList, true_or, or_true, z_ua, ↓reduceIte, Nat.reduceEqDiff, eq_self, not_true_eq_false, not_false_eq_true, false_implies, true_implies, Classical.not_not, Nat.le_refl, Nat.zero_le, k38, hR2, hR, kn, z_l1, lN_rnd hR18, z_hJ, sK38 hS]
    try dsimp only
    have eI : ∀ q, q < n → z_w I3 n (fun _ => 0) q = I3 q := fun q hq => z_w_ne (by omega)
    refine hQ _ _ ⟨rfl, _, _, z_w I3 n (fun _ => 0), _, _, fs, bc, rfl, gr, ga, z_w_at K n 14, z_w_at L n _, fun t => by rw [z_w_at], fun t => by rw [z_w_at], fun q z a b c d => by rw [eI q z]; exact fr q a b c d, by rw [eI 38 (by omega)]; exact f0, by rw [eI 38 (by omega)]; exact f1, by rw [eI 38 (by omega)]; exact f2, by rw [eI 38 (by omega)]; exact f3, ?_⟩
    unfold x_pz
    rw [eI 38 (by omega), eI 39 (by omega), eI 40 (by omega), eI 41 (by omega)]
    exact pz
  refine zW_ok hj B73_0 0 _ _ _ _ _ b73_0 ?_
  simp only [B73_0, zW, z_wp1, z_ld, z_f0, z_f1, z_f2, z_f3, List.getElem?_cons_zero, List.getElem?_cons_succ, true_and, and_true, Int32.reduceOfInt, z_i10, z_i01, Int32.reduceLT, Int32.reduceLE, Int32.reduceAdd, Int32.reduceSub, z_set, z_set2, z_kil, List.set_cons_zero, List.set_cons_succ, List.take_succ_cons, List.take_zero, List.drop_succ_cons, List.drop_zero, List.reverse_cons, List.reverse_nil, List.nil_append, List.cons_append, List.getD_cons_succ, List.getD_cons_zero, List.getD_nil, List.length_cons, List.length_nil, List.map_cons, List.map_nil, List.sum_cons, List.sum_nil, Nat.reduceAdd, Nat.reduceLeDiff, Value.category, Option.toList, true_or, or_true, z_ua, ↓reduceIte, Nat.reduceEqDiff, eq_self, not_true_eq_false, not_false_eq_true, false_implies, true_implies, Classical.not_not, Nat.le_refl, Nat.zero_le, sK38 hS, sK10 hS]
  try dsimp only
  refine ⟨fun _ => go, fun a => ⟨fun _ => go, fun b => ⟨fun _ => go, fun c => ⟨fun _ => go, fun d => absurd ⟨a, b, c, d⟩ hne⟩⟩⟩⟩
end SER10
