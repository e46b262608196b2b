/-! The public methods: feed, end, cost -/
theorem zb_255 (k : Nat) : zb 255 k = decide (k < 8) := by
  by_cases hk : k < 32
  · exact co_dec (N := 32) (P := fun k => zb 255 k = decide (k < 8)) (by decide +kernel) hk
  · rw [zb_ge (by omega)]
    simp
    omega
theorem z_us32 {s : Nat} (h : s < 32) : (((nI s).toUInt32 &&& Int32.toUInt32 31).toBitVec % 32).toNat = s := co_dec (P := fun s => (((nI s).toUInt32 &&& Int32.toUInt32 31).toBitVec % 32).toNat = s) (by decide +kernel) h
theorem z_ush (v : Int32) {s : Nat} (h : s ≤ 24) : (v.toUInt32 >>> ((nI s).toUInt32 &&& Int32.toUInt32 31)).toInt32 &&& 255 = v >>> (nI s &&& 31) &&& 255 := zb_ext (fun k hk => by
  rw [zb_and, zb_and, zb_255]
  by_cases h8 : k < 8
  · have e1 : zb (v >>> (nI s &&& 31)) k = zb v (s + k) := by
      rw [zb, Int32.toBitVec_shiftRight, BitVec.sshiftRight', nI_smod (by omega), BitVec.getLsbD_sshiftRight]
      simp only [show ¬ 32 ≤ k by omega, decide_false, Bool.not_false, Bool.true_and]
      rw [if_pos (by omega)]
      rfl
    have e2 : zb (v.toUInt32 >>> ((nI s).toUInt32 &&& Int32.toUInt32 31)).toInt32 k = zb v (s + k) := by
      show (v.toUInt32 >>> ((nI s).toUInt32 &&& Int32.toUInt32 31)).toBitVec.getLsbD k = _
      rw [UInt32.toBitVec_shiftRight, BitVec.ushiftRight_eq', z_us32 (by omega), BitVec.getLsbD_ushiftRight]
      rfl
    rw [e1, e2]
  · simp [h8])
theorem z_byte (x : Int32) : ∃ m, m < 256 ∧ x &&& 255 = nI m := by
  obtain ⟨k, hk, e⟩ := zb_toN (s := x &&& 255) (N := 8) (by omega) (fun i hi => by
    rw [zb_and, zb_255]
    have : ¬ i < 8 := by omega
    simp [this])
  exact ⟨k, by omega, e⟩
theorem z_chr {m : Nat} (h : m < 256) : ((nI m).toUInt32 % 65536).toInt32 = nI m ∧ vp_nar .char (nI m) = nI m := co_dec (N := 256) (P := fun m => ((nI m).toUInt32 % 65536).toInt32 = nI m ∧ vp_nar .char (nI m) = nI m) (by decide +kernel) h
section PUB8
variable {l : Launch} {n : Nat} {K L : Nat → Nat} {I I' : Nat → Nat → Int32} {J : Nat → Nat → Int64} {G G' : Nat → Nat → Value} {M M' : Nat → Nat → Int32} {c F N c' F' N' : Nat} {tr tr' : Nat → (Int32 → Int32) → Int32} {cd cd' : Nat} {D : Nat → Nat} {ch rr : Nat}
theorem c149_step {X : zX} (hS : SS K L G) (hj : X.2.1 = 149) (hd : X.2.2.1 = 0) (hm : X.2.2.2.1 = 0) (hs : X.2.2.2.2.1 = 0) {v : Int32} {t s : Nat} (ht : I 5 8 = nI t) (ht8 : t < 800) (hs24 : s ≤ 24) (kk : zV X 3 [some (.ref 5), some (.int v), some (.int (nI s + -8))] [] (n, K, L, z_u (z_u I 59 t (v >>> (nI s &&& 31) &&& 255)) 5 8 (nI (t + 1)), J, G) 0 0) : zV X 3 [some (.ref 5), some (.int v), some (.int (nI s))] [] (n, K, L, I, J, G) 0 0 := by
  have e2 : (nI t).toNatClampNeg = t := nI_clamp (by omega)
  have v2 : vp_in (nI t) 800 := vp_in_nI (by omega) (by omega)
  have n1 : ¬ nI s < 0 := nI_pos (by omega)
  have n2 : ¬ (800 : Int32) ≤ nI t := fun q => by
    have := (nI_leI (a := 800) (b := t) (by omega) (by omega)).mp q
    omega
  refine zW_ok hj B149_3 3 _ _ _ _ _ b149_3 ?_
  simp only [B149_3, zW, z_wp1, z_ld, z_f0, z_f1, z_f2, z_f3, List.getElem?_cons_zero, List.getElem?_cons_succ, true_and, and_true, Int32.reduceOfInt, z_i10, z_i01, Int32.reduceLT, Int32.reduceLE, Int32.reduceAdd, Int32.reduceSub, z_set, z_set2, z_kil, List.set_cons_zero, List.set_cons_succ, List.take_succ_cons, List.take_zero, List.drop_succ_cons, List.drop_zero, List.reverse_cons, List.reverse_nil, List.nil_append, List.cons_append, List.getD_cons_succ, List.getD_cons_zero, List.getD_nil, List.length_cons, List.length_nil, List.map_cons, List.map_nil, List.sum_cons, List.sum_nil, Nat.reduceAdd, Nat.reduceLeDiff, Value.category, Option.toList, true_or, or_true, z_ua, ↓reduceIte, Nat.reduceEqDiff, eq_self, not_true_eq_false, not_false_eq_true, false_implies, true_implies, Classical.not_not, Nat.le_refl, Nat.zero_le, sK5 hS, sG5_7 hS, sK59 hS, sL59 hS, sK59 hS, n1, n2, ht, e2, v2]
  try dsimp only
  rw [z_ush v hs24]
  obtain ⟨m, hm, e⟩ := z_byte (v >>> (nI s &&& 31))
  rw [e] at kk ⊢
  rw [(z_chr hm).1, (z_chr hm).2]
  refine ⟨rfl, ?_⟩
  rw [show nI t + 1 = nI (t + 1) from nI_add t 1]
  exact kk
/-- feedFour -/
def x_put4 (I : Nat → Nat → Int32) (t : Nat) (v : Int32) : Nat → Nat → Int32 := z_u (z_u (z_u (z_u (z_u (z_u (z_u (z_u I 59 t (v >>> (24 &&& 31) &&& 255)) 5 8 (nI (t + 1))) 59 (t + 1) (v >>> (16 &&& 31) &&& 255)) 5 8 (nI (t + 1 + 1))) 59 (t + 1 + 1) (v >>> (8 &&& 31) &&& 255)) 5 8 (nI (t + 1 + 1 + 1))) 59 (t + 1 + 1 + 1) (v >>> (0 &&& 31) &&& 255)) 5 8 (nI (t + 1 + 1 + 1 + 1))
theorem x_put4_t (I : Nat → Nat → Int32) (t : Nat) (v : Int32) : x_put4 I t v 5 8 = nI (t + 4) := by simp [x_put4, z_u]
theorem c149 (hS : SS K L G) {t : Nat} (ht : I 5 8 = nI t) (ht8 : t + 4 ≤ 800) (v : Int32) : z_D l 0 149 [.ref 5, .int v] (n, K, L, I, J, G) none (n, K, L, x_put4 I t v, J, G) := by
  refine z_ctr (by decide) (by decide +kernel) (Nat.le_of_ble_eq_true rfl) (by decide +kernel) (fun X hl hj hd hm hs hsc hQ => ?_)
  show zV X 0 [some (.ref 5), some (.int v), none] [] _ 0 0
  refine zW_ok hj B149_0 0 _ _ _ _ _ b149_0 ?_
  simp only [B149_0, zW, z_wp1, z_ld, z_f0, z_f1, z_f2, z_f3, List.getElem?_cons_zero, List.getElem?_cons_succ, true_and, and_true, Int32.reduceOfInt, z_i10, z_i01, Int32.reduceLT, Int32.reduceLE, Int32.reduceAdd, Int32.reduceSub, z_set, z_set2, z_kil, List.set_cons_zero, List.set_cons_succ, List.take_succ_cons, List.take_zero, List.drop_succ_cons, List.drop_zero, List.reverse_cons, List.reverse_nil, List.nil_append, List.cons_append, List.getD_cons_succ, List.getD_cons_zero, List.getD_nil, List.length_cons, List.length_nil, List.map_cons, List.map_nil, List.sum_cons, List.sum_nil, Nat.reduceAdd, Nat.reduceLeDiff, Value.category, Option.toList, true_or, or_true, z_ua, ↓reduceIte, Nat.reduceEqDiff, eq_self, not_true_eq_false, not_false_eq_true, false_implies, true_implies, Classical.not_not, Nat.le_refl, Nat.zero_le]
  try dsimp only
  refine c149_step (s := 24) hS hj hd hm hs ht (by omega) (by omega) ?_
  rw [show nI 24 + -8 = nI 16 from rfl]
  refine c149_step (s := 16) (t := t + 1) hS hj hd hm hs (by simp [z_u]) (by omega) (by omega) ?_
  rw [show nI 16 + -8 = nI 8 from rfl]
  refine c149_step (s := 8) (t := t + 1 + 1) hS hj hd hm hs (by simp [z_u]) (by omega) (by omega) ?_
  rw [show nI 8 + -8 = nI 0 from rfl]
  refine c149_step (s := 0) (t := t + 1 + 1 + 1) hS hj hd hm hs (by simp [z_u]) (by omega) (by omega) ?_
  refine zW_ok hj B149_3 3 _ _ _ _ _ b149_3 ?_
  simp only [B149_3, zW, z_wp1, z_ld, z_f0, z_f1, z_f2, z_f3, List.getElem?_cons_zero, List.getElem?_cons_succ, true_and, and_true, Int32.reduceOfInt, z_i10, z_i01, Int32.reduceLT, Int32.reduceLE, Int32.reduceAdd, Int32.reduceSub, z_set, z_set2, z_kil, List.set_cons_zero, List.set_cons_succ, List.take_succ_cons, List.take_zero, List.drop_succ_cons, List.drop_zero, List.reverse_cons, List.reverse_nil, List.nil_append, List.cons_append, List.getD_cons_succ, List.getD_cons_zero, List.getD_nil, List.length_cons, List.length_nil, List.map_cons, List.map_nil, List.sum_cons, List.sum_nil, Nat.reduceAdd, Nat.reduceLeDiff, Value.category, Option.toList, true_or, or_true, z_ua, ↓reduceIte, Nat.reduceEqDiff, eq_self, not_true_eq_false, not_false_eq_true, false_implies, true_implies, Classical.not_not, Nat.le_refl, Nat.zero_le]
  try dsimp only
  refine ⟨fun _ => ?_, fun q => absurd (by decide) q⟩
  refine zW_ok hj B149_50 50 _ _ _ _ _ b149_50 ?_
  simp only [B149_50, zW, z_wp1, z_ld, z_f0, z_f1, z_f2, z_f3, List.getElem?_cons_zero, List.getElem?_cons_succ, true_and, and_true, Int32.reduceOfInt, z_i10, z_i01, Int32.reduceLT, Int32.reduceLE, Int32.reduceAdd, Int32.reduceSub, z_set, z_set2, z_kil, List.set_cons_zero, List.set_cons_succ, List.take_succ_cons, List.take_zero, List.drop_succ_cons, List.drop_zero, List.reverse_cons, List.reverse_nil, List.nil_append, List.cons_append, List.getD_cons_succ, List.getD_cons_zero, List.getD_nil, List.length_cons, List.length_nil, List.map_cons, List.map_nil, List.sum_cons, List.sum_nil, Nat.reduceAdd, Nat.reduceLeDiff, Value.category, Option.toList, true_or, or_true, z_ua, ↓reduceIte, Nat.reduceEqDiff, eq_self, not_true_eq_false, not_false_eq_true, false_implies, true_implies, Classical.not_not, Nat.le_refl, Nat.zero_le]
  try dsimp only
  exact hQ _ _ ⟨rfl, rfl⟩
theorem x_put4_o (I : Nat → Nat → Int32) (t : Nat) (v : Int32) : (∀ q, q ≠ 5 → q ≠ 59 → x_put4 I t v q = I q) ∧ ∀ k, k ≠ 8 → x_put4 I t v 5 k = I 5 k := by
  refine ⟨fun q h1 h2 => ?_, fun k hk => ?_⟩
  · unfold x_put4
    rw [z_u_ne h1, z_u_ne h2, z_u_ne h1, z_u_ne h2, z_u_ne h1, z_u_ne h2, z_u_ne h1, z_u_ne h2]
  · unfold x_put4
    rw [z_u_at, if_neg hk, z_u_ne (by decide), z_u_at, if_neg hk, z_u_ne (by decide), z_u_at, if_neg hk, z_u_ne (by decide), z_u_at, if_neg hk, z_u_ne (by decide)]
/-- the two tapes -/
theorem x_put4_e {I M : Nat → Nat → Int32} (t : Nat) (v : Int32) (h : I 59 = M 77) : x_put4 I t v 59 = m_put4 M t v 77 := by
  funext k
  unfold x_put4 m_put4
  rw [z_u_ne (by decide), z_u_at, z_u_ne (by decide), z_u_at, z_u_ne (by decide), z_u_at, z_u_ne (by decide), z_u_at, h]
  rw [z_u_ne (by decide), z_u_at, z_u_ne (by decide), z_u_at, z_u_ne (by decide), z_u_at, z_u_ne (by decide), z_u_at]
theorem m_put4_r {M : Nat → Nat → Int32} (t : Nat) (v : Int32) (h : ∀ k, 0 ≤ M 77 k ∧ M 77 k ≤ 255) : ∀ k, 0 ≤ m_put4 M t v 77 k ∧ m_put4 M t v 77 k ≤ 255 := by
  intro k
  have b : ∀ x : Int32, 0 ≤ x &&& 255 ∧ x &&& 255 ≤ 255 := fun x => by
    obtain ⟨m, hm, e⟩ := z_byte x
    rw [e]
    exact ⟨nI_pos' (by omega), (nI_leI (a := m) (b := 255) (by omega) (by omega)).mpr (by omega)⟩
  unfold m_put4
  rw [z_u_ne (by decide), z_u_at, z_u_ne (by decide), z_u_at, z_u_ne (by decide), z_u_at, z_u_ne (by decide), z_u_at]
  split
  · exact b _
  split
  · exact b _
  split
  · exact b _
  split
  · exact b _
  exact h k
/-- what neither tape nor exploring nor faults see -/
def mGv (M M' : Nat → Nat → Int32) : Prop := (∀ q, (72 ≤ q ∧ q ≤ 76) ∨ q = 78 → M' q = M q) ∧ ∀ k, k = 1 ∨ k = 2 ∨ k = 8 ∨ k = 9 → M' 71 k = M 71 k
theorem mGv.all (hm : mGv M M') (hsc : m_scale M' N tr) : (m_st M c F N tr ∧ p_lay (M 78) 0 p_ws → m_st M' c F N tr ∧ p_lay (M' 78) 0 p_ws) ∧ (x_led I M c → x_led I M' c) ∧ (x_tab I M c F N tr cd ch → x_tab I M' c F N tr cd ch) ∧ (∀ lp b mode, x_lat L I D M c F N tr lp b mode ch → x_lat L I D M' c F N tr lp b mode ch) ∧ (x_sez L I J D M c N tr ch rr → x_sez L I J D M' c N tr ch rr) ∧ (x_crz I M c N tr ch → x_crz I M' c N tr ch) ∧ (M' 97 = M 97 → x_kyz L I D M c F N tr ch rr → x_kyz L I D M' c F N tr ch rr) := by
  have e72 : M' 72 = M 72 := hm.1 72 (by omega)
  have e73 : M' 73 = M 73 := hm.1 73 (by omega)
  have e74 : M' 74 = M 74 := hm.1 74 (by omega)
  have e75 : M' 75 = M 75 := hm.1 75 (by omega)
  have e76 : M' 76 = M 76 := hm.1 76 (by omega)
  have e78 : M' 78 = M 78 := hm.1 78 (by omega)
  have f1 : M' 71 1 = M 71 1 := hm.2 _ (by omega)
  have f2 : M' 71 2 = M 71 2 := hm.2 _ (by omega)
  have f3 : M' 71 8 = M 71 8 := hm.2 _ (by omega)
  have f4 : M' 71 9 = M 71 9 := hm.2 _ (by omega)
  have r1 : ∀ k d i f, mT M' c tr k d i f = mT M c tr k d i f := fun k d i f => by unfold mT mI_known; rw [e72, e73, e74, e75, e76]
  have r2 : mT M' c tr (M 71 8) (M 71 9) = mT M c tr (M 71 8) (M 71 9) := by funext i f; exact r1 _ _ i f
  have r3 : ∀ mode, mR M' c N tr mode = mR M c N tr mode := fun mode => by funext f; unfold mR; rw [f3, f4, r2]
  have r4 : ∀ v, mYs M' c F tr v = mYs M c F tr v := fun v => by
    funext i
    unfold mYs
    have : mTv M' c tr i = mTv M c tr i := by funext f; unfold mTv; rw [f3, f4]; exact r1 _ _ i f
    rw [this]
  have r5 : ∀ mode, x_cl M' c F N tr mode = x_cl M c F N tr mode := fun mode => by funext s; unfold x_cl; rw [r3]
  refine ⟨fun h1 => ⟨?_, by rw [e78]; exact h1.2⟩, fun h2 => ?_, fun h3 => ?_, fun lp b mode h6 => ?_, fun h9 => ?_, fun h10 => ?_, fun e97 h11 => ?_⟩
  · obtain ⟨s1, s2, s3, s4, s5⟩ := h1.1
    exact ⟨by rw [f2]; exact s1, s2, by rw [f1]; exact s3, s4, hsc⟩
  · unfold x_led l_ok at *
    rw [e72, e73, e74, e75, e76]
    exact h2
  · unfold x_tab l_kv at *
    rw [f3, f4]
    simp only [mI_kn, e72, e73, e74, e75, e76] at *
    exact h3
  · unfold x_lat at *
    rw [r5]
    exact h6
  · unfold x_sez at *
    simp only [r3]
    exact h9
  · unfold x_crz at *
    simp only [r3]
    exact h10
  · unfold x_kyz at *
    rw [r4, r4, e97]
    exact h11
/-- the tape or the faults have changed -/
theorem XI.tp (hx : XI n K L I J G M c F N tr cd D ch rr) (hI : ∀ q, q ≠ 5 → (q < 12 ∨ (16 ≤ q ∧ q < 58) ∨ 103 ≤ q) → I' q = I q) (hI2 : I' cd 3 = I cd 3 ∧ I' (cd + 1) = I (cd + 1) ∧ I' (cd + 2) = I (cd + 2)) (hm : mGd (fun k => k = 11 ∨ k = 28 ∨ k = 29 ∨ k = 17) (fun q => q = 77 ∨ (79 ≤ q ∧ q ≤ 82)) M M') (hsc : m_scale M' N tr) (ht : x_tap I' M') (hf : x_flt I' M') : XI n K L I' J G M' c F N tr cd D ch rr := by
  obtain ⟨h0, h1, h2, h3, h4, h5, h6, h7, h8, h9, h10, h11⟩ := hx
  have hD : ∀ i, i < 10 → I' (D i) = I (D i) := fun i hi => by
    obtain ⟨p, h1, -, h2, -⟩ := h0.2.2.2.1.pl hi
    have hp : 20 ≤ p ∧ p ≤ 57 := by
      revert h1
      simp only [List.mem_cons, List.not_mem_nil, or_false]
      omega
    exact hI _ (by omega) (by omega)
  have gk : ∀ k, mQ k → ¬ (k = 11 ∨ k = 28 ∨ k = 29 ∨ k = 17) → M' 71 k = M 71 k := hm.2
  have hv : mGv M M' := ⟨fun q hq => hm.1 q (by omega) (by omega), fun k hk => gk k (by unfold mQ; omega) (by omega)⟩
  obtain ⟨g1, g2, g3, g6, g7, g8, g9⟩ := mGv.all (L := L) (I := I') (J := J) (D := D) (c := c) (F := F) (N := N) (tr := tr) (cd := cd) (ch := ch) (rr := rr) hv hsc
  exact ⟨h0, g1 h1, g2 (h2.cg (fun q _ _ => hI q (by omega) (by omega))), g3 (h3.cg (hI _ (by omega) (by omega)) (hI _ (by omega) (by omega)) (hI _ (by omega) (by omega)) (hI _ (by omega) (by omega)) (hI _ (by omega) (by omega)) hI2.1 hI2.2.1 hI2.2.2), ht, hf, g6 22 0 0 (h6.cg (hI _ (by omega) (by omega)) (hD 0 (by omega)) (hD 1 (by omega)) (hD 3 (by omega))), g6 28 4 1 (h7.cg (hI _ (by omega) (by omega)) (hD 4 (by omega)) (hD 5 (by omega)) (hD 7 (by omega))), (h8.mg (fun q _ _ => hm.1 q (by omega) (by omega)) (gk _ (by unfold mQ; omega) (by decide)) (gk _ (by unfold mQ; omega) (by decide)) (gk _ (by unfold mQ; omega) (by decide)) (gk _ (by unfold mQ; omega) (by decide))).cg (hI _ (by omega) (by omega)) (hI _ (by omega) (by omega)) (hI _ (by omega) (by omega)) (hI _ (by omega) (by omega)), g7 (h9.cg (fun q _ _ => hI q (by omega) (by omega)) rfl rfl), g8 (h10.cg (fun q _ _ => hI q (by omega) (by omega))), g9 (hm.1 97 (by omega) (by omega)) (h11.cg (fun q _ _ => hI q (by omega) (by omega)) (hD 9 (by omega)))⟩
/-- feed -/
theorem d120a (hx : XI n K L I J G M c F N tr cd D ch rr) (hr : rr < 600) {t : Nat} (ht : M 71 11 = nI t) (ht8 : t ≤ 780) (a b c1 d e : Int32) : z_Ctr l 6 120 [.ref 5, .int a, .int b, .int c1, .int d, .int e] (n, K, L, I, J, G) 0 0 (x_pq n I J (fun M' => mGd (fun k => k = 11) (fun q => q = 77) M M' ∧ M' 71 11 = nI (t + 20) ∧ M' 77 = m_put4 (m_put4 (m_put4 (m_put4 (m_put4 M t a) (t + 4) b) (t + 8) c1) (t + 12) d) (t + 16) e 77) c F N tr (rr + 1) (x_u L D) (.int (nI (t + 20)))) := by
  have hS : SS K L G := hx.S
  have hcd : cd = 12 ∨ cd = 65 := hx.1.2.1.1
  have htp := hx.2.2.2.2.1
  have hfl := hx.2.2.2.2.2.1
  have t0 : I 5 8 = nI t := by rw [htp.1]; exact ht
  have n1 : nI t + 20 = nI (t + 20) := nI_add t 20
  have n2 : nI (t + 20) ≤ 800 := nI_le (b := 800) (by omega) (by omega)
  refine z_ctr (by decide) (by decide +kernel) (Nat.le_of_ble_eq_true rfl) (by decide +kernel) (fun X hl hj hd hm hs hsc hQ => ?_)
  show zV X 0 [some (.ref 5), some (.int a), some (.int b), some (.int c1), some (.int d), some (.int e)] [] _ 0 0
  refine zW_ok hj B120_0 0 _ _ _ _ _ b120_0 ?_
  simp only [B120_0, zW, z_wp1, z_ld, z_f0, z_f1, z_f2, z_f3, List.getElem?_cons_zero, List.getElem?_cons_succ, true_and, and_true, Int32.reduceOfInt, z_i10, z_i01, Int32.reduceLT, Int32.reduceLE, Int32.reduceAdd, Int32.reduceSub, z_set, z_set2, z_kil, List.set_cons_zero, List.set_cons_succ, List.take_succ_cons, List.take_zero, List.drop_succ_cons, List.drop_zero, List.reverse_cons, List.reverse_nil, List.nil_append, List.cons_append, List.getD_cons_succ, List.getD_cons_zero, List.getD_nil, List.length_cons, List.length_nil, List.map_cons, List.map_nil, List.sum_cons, List.sum_nil, Nat.reduceAdd, Nat.reduceLeDiff, Value.category, Option.toList, true_or, or_true, z_ua, ↓reduceIte, Nat.reduceEqDiff, eq_self, not_true_eq_false, not_false_eq_true, false_implies, true_implies, Classical.not_not, Nat.le_refl, Nat.zero_le, sK5 hS, t0, n1, n2]
  try dsimp only
  refine zW_ok hj B120_15 15 _ _ _ _ _ b120_15 ?_
  simp only [B120_15, zW, z_wp1, z_ld, z_f0, z_f1, z_f2, z_f3, List.getElem?_cons_zero, List.getElem?_cons_succ, true_and, and_true, Int32.reduceOfInt, z_i10, z_i01, Int32.reduceLT, Int32.reduceLE, Int32.reduceAdd, Int32.reduceSub, z_set, z_set2, z_kil, List.set_cons_zero, List.set_cons_succ, List.take_succ_cons, List.take_zero, List.drop_succ_cons, List.drop_zero, List.reverse_cons, List.reverse_nil, List.nil_append, List.cons_append, List.getD_cons_succ, List.getD_cons_zero, List.getD_nil, List.length_cons, List.length_nil, List.map_cons, List.map_nil, List.sum_cons, List.sum_nil, Nat.reduceAdd, Nat.reduceLeDiff, Value.category, Option.toList, true_or, or_true, z_ua, ↓reduceIte, Nat.reduceEqDiff, eq_self, not_true_eq_false, not_false_eq_true, false_implies, true_implies, Classical.not_not, Nat.le_refl, Nat.zero_le, sK5 hS]
  try dsimp only
  refine z_callD (c149 (n := n) (J := J) hS t0 (by omega) a) (by omega) (by omega) (by omega) (Nat.le_of_ble_eq_true rfl) ?_
  try simp only [zW, z_wp1, z_ld, z_f0, z_f1, z_f2, z_f3, List.getElem?_cons_zero, List.getElem?_cons_succ, true_and, and_true, Int32.reduceOfInt, z_i10, z_i01, Int32.reduceLT, Int32.reduceLE, Int32.reduceAdd, Int32.reduceSub, z_set, z_set2, z_kil, List.set_cons_zero, List.set_cons_succ, List.take_succ_cons, List.take_zero, List.drop_succ_cons, List.drop_zero, List.reverse_cons, List.reverse_nil, List.nil_append, List.cons_append, List.getD_cons_succ, List.getD_cons_zero, List.getD_nil, List.length_cons, List.length_nil, List.map_cons, List.map_nil, List.sum_cons, List.sum_nil, Nat.reduceAdd, Nat.reduceLeDiff, Value.category, Option.toList, true_or, or_true, z_ua, ↓reduceIte, Nat.reduceEqDiff, eq_self, not_true_eq_false, not_false_eq_true, false_implies, true_implies, Classical.not_not, Nat.le_refl, Nat.zero_le, sK5 hS]
  try dsimp only
  refine z_callD (c149 (n := n) (J := J) hS (x_put4_t _ _ _) (by omega) b) (by omega) (by omega) (by omega) (Nat.le_of_ble_eq_true rfl) ?_
  try simp only [zW, z_wp1, z_ld, z_f0, z_f1, z_f2, z_f3, List.getElem?_cons_zero, List.getElem?_cons_succ, true_and, and_true, Int32.reduceOfInt, z_i10, z_i01, Int32.reduceLT, Int32.reduceLE, Int32.reduceAdd, Int32.reduceSub, z_set, z_set2, z_kil, List.set_cons_zero, List.set_cons_succ, List.take_succ_cons, List.take_zero, List.drop_succ_cons, List.drop_zero, List.reverse_cons, List.reverse_nil, List.nil_append, List.cons_append, List.getD_cons_succ, List.getD_cons_zero, List.getD_nil, List.length_cons, List.length_nil, List.map_cons, List.map_nil, List.sum_cons, List.sum_nil, Nat.reduceAdd, Nat.reduceLeDiff, Value.category, Option.toList, true_or, or_true, z_ua, ↓reduceIte, Nat.reduceEqDiff, eq_self, not_true_eq_false, not_false_eq_true, false_implies, true_implies, Classical.not_not, Nat.le_refl, Nat.zero_le, sK5 hS]
  try dsimp only
  refine z_callD (c149 (n := n) (J := J) hS (x_put4_t _ _ _) (by omega) c1) (by omega) (by omega) (by omega) (Nat.le_of_ble_eq_true rfl) ?_
  try simp only [zW, z_wp1, z_ld, z_f0, z_f1, z_f2, z_f3, List.getElem?_cons_zero, List.getElem?_cons_succ, true_and, and_true, Int32.reduceOfInt, z_i10, z_i01, Int32.reduceLT, Int32.reduceLE, Int32.reduceAdd, Int32.reduceSub, z_set, z_set2, z_kil, List.set_cons_zero, List.set_cons_succ, List.take_succ_cons, List.take_zero, List.drop_succ_cons, List.drop_zero, List.reverse_cons, List.reverse_nil, List.nil_append, List.cons_append, List.getD_cons_succ, List.getD_cons_zero, List.getD_nil, List.length_cons, List.length_nil, List.map_cons, List.map_nil, List.sum_cons, List.sum_nil, Nat.reduceAdd, Nat.reduceLeDiff, Value.category, Option.toList, true_or, or_true, z_ua, ↓reduceIte, Nat.reduceEqDiff, eq_self, not_true_eq_false, not_false_eq_true, false_implies, true_implies, Classical.not_not, Nat.le_refl, Nat.zero_le, sK5 hS]
  try dsimp only
  refine z_callD (c149 (n := n) (J := J) hS (x_put4_t _ _ _) (by omega) d) (by omega) (by omega) (by omega) (Nat.le_of_ble_eq_true rfl) ?_
  try simp only [zW, z_wp1, z_ld, z_f0, z_f1, z_f2, z_f3, List.getElem?_cons_zero, List.getElem?_cons_succ, true_and, and_true, Int32.reduceOfInt, z_i10, z_i01, Int32.reduceLT, Int32.reduceLE, Int32.reduceAdd, Int32.reduceSub, z_set, z_set2, z_kil, List.set_cons_zero, List.set_cons_succ, List.take_succ_cons, List.take_zero, List.drop_succ_cons, List.drop_zero, List.reverse_cons, List.reverse_nil, List.nil_append, List.cons_append, List.getD_cons_succ, List.getD_cons_zero, List.getD_nil, List.length_cons, List.length_nil, List.map_cons, List.map_nil, List.sum_cons, List.sum_nil, Nat.reduceAdd, Nat.reduceLeDiff, Value.category, Option.toList, true_or, or_true, z_ua, ↓reduceIte, Nat.reduceEqDiff, eq_self, not_true_eq_false, not_false_eq_true, false_implies, true_implies, Classical.not_not, Nat.le_refl, Nat.zero_le, sK5 hS]
  try dsimp only
  refine z_callD (c149 (n := n) (J := J) hS (x_put4_t _ _ _) (by omega) e) (by omega) (by omega) (by omega) (Nat.le_of_ble_eq_true rfl) ?_
  try simp only [zW, z_wp1, z_ld, z_f0, z_f1, z_f2, z_f3, List.getElem?_cons_zero, List.getElem?_cons_succ, true_and, and_true, Int32.reduceOfInt, z_i10, z_i01, Int32.reduceLT, Int32.reduceLE, Int32.reduceAdd, Int32.reduceSub, z_set, z_set2, z_kil, List.set_cons_zero, List.set_cons_succ, List.take_succ_cons, List.take_zero, List.drop_succ_cons, List.drop_zero, List.reverse_cons, List.reverse_nil, List.nil_append, List.cons_append, List.getD_cons_succ, List.getD_cons_zero, List.getD_nil, List.length_cons, List.length_nil, List.map_cons, List.map_nil, List.sum_cons, List.sum_nil, Nat.reduceAdd, Nat.reduceLeDiff, Value.category, Option.toList, true_or, or_true, z_ua, ↓reduceIte, Nat.reduceEqDiff, eq_self, not_true_eq_false, not_false_eq_true, false_implies, true_implies, Classical.not_not, Nat.le_refl, Nat.zero_le, sK5 hS, x_put4_t]
  try dsimp only
  generalize hI2 : x_put4 (x_put4 (x_put4 (x_put4 (x_put4 I t a) (t + 4) b) (t + 4 + 4) c1) (t + 4 + 4 + 4) d) (t + 4 + 4 + 4 + 4) e = I2
  have o : ∀ q, q ≠ 5 → q ≠ 59 → I2 q = I q := fun q h1 h2 => by rw [← hI2, (x_put4_o _ _ _).1 q h1 h2, (x_put4_o _ _ _).1 q h1 h2, (x_put4_o _ _ _).1 q h1 h2, (x_put4_o _ _ _).1 q h1 h2, (x_put4_o _ _ _).1 q h1 h2]
  have e1 : I2 5 8 = nI (t + 20) := by rw [← hI2, x_put4_t]
  have e2 : I2 59 = m_put4 (m_put4 (m_put4 (m_put4 (m_put4 M t a) (t + 4) b) (t + 8) c1) (t + 12) d) (t + 16) e 77 := by
    rw [← hI2]
    exact x_put4_e _ _ (x_put4_e _ _ (x_put4_e _ _ (x_put4_e _ _ (x_put4_e _ _ htp.2.2.1))))
  refine hQ _ _ ⟨rfl, n, K, L, I2, J, G, cd, D, ch, rfl, fun M' hP => ?_, hS, Nat.le_refl _, fun q a b => ⟨o q (by omega) (by omega), rfl⟩, Nat.le_refl _⟩
  obtain ⟨hg, m1, m2⟩ := hP
  have gk : ∀ k, mQ k → ¬ k = 11 → M' 71 k = M 71 k := hg.2
  refine (hx.up hr).tp (fun q h1 h2 => o q h1 (by omega)) ⟨by rw [o cd (by omega) (by omega)], o _ (by omega) (by omega), o _ (by omega) (by omega)⟩ ⟨fun q hq hn => hg.1 q hq (fun z => hn (Or.inl z)), fun k hk hn => hg.2 k hk (fun z => hn (Or.inl z))⟩ (hx.2.1.1.2.2.2.2.mg (gk _ (by unfold mQ; omega) (by decide)) (fun q _ _ => hg.1 q (by omega) (by omega))) ⟨by rw [e1, m1], ⟨t + 20, by omega, m1⟩, by rw [e2, m2], ?_⟩ ((hfl.cg (o 60 (by omega) (by omega))).mg (gk _ (by unfold mQ; omega) (by decide)) (gk _ (by unfold mQ; omega) (by decide)))
  rw [m2]
  exact m_put4_r _ _ (m_put4_r _ _ (m_put4_r _ _ (m_put4_r _ _ (m_put4_r _ _ htp.2.2.2))))
theorem d120b (hx : XI n K L I J G M c F N tr cd D ch rr) (hr : rr < 600) {t : Nat} (ht : M 71 11 = nI t) (ht8 : ¬ t ≤ 780) (ht9 : t ≤ 800) (a b c1 d e : Int32) : z_Ctr l 6 120 [.ref 5, .int a, .int b, .int c1, .int d, .int e] (n, K, L, I, J, G) 0 0 (x_po n I J M c F N tr (rr + 1) (x_u L D) (.int (-1))) := by
  have hS : SS K L G := hx.S
  have htp := hx.2.2.2.2.1
  have t0 : I 5 8 = nI t := by rw [htp.1]; exact ht
  have n1 : nI t + 20 = nI (t + 20) := nI_add t 20
  have n2 : ¬ nI (t + 20) ≤ 800 := fun q => by
    have := (nI_leI (a := t + 20) (b := 800) (by omega) (by omega)).mp q
    omega
  refine z_ctr (by decide) (by decide +kernel) (Nat.le_of_ble_eq_true rfl) (by decide +kernel) (fun X hl hj hd hm hs hsc hQ => ?_)
  show zV X 0 [some (.ref 5), some (.int a), some (.int b), some (.int c1), some (.int d), some (.int e)] [] _ 0 0
  refine zW_ok hj B120_0 0 _ _ _ _ _ b120_0 ?_
  simp only [B120_0, zW, z_wp1, z_ld, z_f0, z_f1, z_f2, z_f3, List.getElem?_cons_zero, List.getElem?_cons_succ, true_and, and_true, Int32.reduceOfInt, z_i10, z_i01, Int32.reduceLT, Int32.reduceLE, Int32.reduceAdd, Int32.reduceSub, z_set, z_set2, z_kil, List.set_cons_zero, List.set_cons_succ, List.take_succ_cons, List.take_zero, List.drop_succ_cons, List.drop_zero, List.reverse_cons, List.reverse_nil, List.nil_append, List.cons_append, List.getD_cons_succ, List.getD_cons_zero, List.getD_nil, List.length_cons, List.length_nil, List.map_cons, List.map_nil, List.sum_cons, List.sum_nil, Nat.reduceAdd, Nat.reduceLeDiff, Value.category, Option.toList, true_or, or_true, z_ua, ↓reduceIte, Nat.reduceEqDiff, eq_self, not_true_eq_false, not_false_eq_true, false_implies, true_implies, Classical.not_not, Nat.le_refl, Nat.zero_le, sK5 hS, t0, n1, n2]
  try dsimp only
  exact hQ _ _ (x_po.id hx hr _)
/-- end -/
theorem d121a (hx : XI n K L I J G M c F N tr cd D ch rr) (hr : rr < 600) {t T : Nat} (hT : M 71 11 = nI T) (hT8 : T ≤ 800) (ht : t ≤ T) : z_Ctr l 6 121 [.ref 5, .int (nI t)] (n, K, L, I, J, G) 0 0 (x_pq n I J (fun M' => mGd (fun k => k = 11) (fun _ => False) M M' ∧ M' 71 11 = nI t) c F N tr (rr + 1) (x_u L D) (.int 1)) := by
  have hS : SS K L G := hx.S
  have hcd : cd = 12 ∨ cd = 65 := hx.1.2.1.1
  have htp := hx.2.2.2.2.1
  have hfl := hx.2.2.2.2.2.1
  have t0 : I 5 8 = nI T := by rw [htp.1]; exact hT
  have n1 : ¬ nI t < 0 := nI_pos (by omega)
  have n2 : nI t ≤ nI T := (nI_leI (by omega) (by omega)).mpr ht
  refine z_ctr (by decide) (by decide +kernel) (Nat.le_of_ble_eq_true rfl) (by decide +kernel) (fun X hl hj hd hm hs hsc hQ => ?_)
  show zV X 0 [some (.ref 5), some (.int (nI t))] [] _ 0 0
  refine zW_ok hj B121_0 0 _ _ _ _ _ b121_0 ?_
  simp only [B121_0, zW, z_wp1, z_ld, z_f0, z_f1, z_f2, z_f3, List.getElem?_cons_zero, List.getElem?_cons_succ, true_and, and_true, Int32.reduceOfInt, z_i10, z_i01, Int32.reduceLT, Int32.reduceLE, Int32.reduceAdd, Int32.reduceSub, z_set, z_set2, z_kil, List.set_cons_zero, List.set_cons_succ, List.take_succ_cons, List.take_zero, List.drop_succ_cons, List.drop_zero, List.reverse_cons, List.reverse_nil, List.nil_append, List.cons_append, List.getD_cons_succ, List.getD_cons_zero, List.getD_nil, List.length_cons, List.length_nil, List.map_cons, List.map_nil, List.sum_cons, List.sum_nil, Nat.reduceAdd, Nat.reduceLeDiff, Value.category, Option.toList, true_or, or_true, z_ua, ↓reduceIte, Nat.reduceEqDiff, eq_self, not_true_eq_false, not_false_eq_true, false_implies, true_implies, Classical.not_not, Nat.le_refl, Nat.zero_le, sK5 hS, t0, n1, n2]
  try dsimp only
  refine zW_ok hj B121_14 14 _ _ _ _ _ b121_14 ?_
  simp only [B121_14, zW, z_wp1, z_ld, z_f0, z_f1, z_f2, z_f3, List.getElem?_cons_zero, List.getElem?_cons_succ, true_and, and_true, Int32.reduceOfInt, z_i10, z_i01, Int32.reduceLT, Int32.reduceLE, Int32.reduceAdd, Int32.reduceSub, z_set, z_set2, z_kil, List.set_cons_zero, List.set_cons_succ, List.take_succ_cons, List.take_zero, List.drop_succ_cons, List.drop_zero, List.reverse_cons, List.reverse_nil, List.nil_append, List.cons_append, List.getD_cons_succ, List.getD_cons_zero, List.getD_nil, List.length_cons, List.length_nil, List.map_cons, List.map_nil, List.sum_cons, List.sum_nil, Nat.reduceAdd, Nat.reduceLeDiff, Value.category, Option.toList, true_or, or_true, z_ua, ↓reduceIte, Nat.reduceEqDiff, eq_self, not_true_eq_false, not_false_eq_true, false_implies, true_implies, Classical.not_not, Nat.le_refl, Nat.zero_le, sK5 hS]
  try dsimp only
  have o : ∀ q, q ≠ 5 → z_u I 5 8 (nI t) q = I q := fun q h1 => z_u_ne h1
  refine hQ _ _ ⟨rfl, n, K, L, z_u I 5 8 (nI t), J, G, cd, D, ch, rfl, fun M' hP => ?_, hS, Nat.le_refl _, fun q a b => ⟨o q (by omega), rfl⟩, Nat.le_refl _⟩
  obtain ⟨hg, m1⟩ := hP
  have gk : ∀ k, mQ k → ¬ k = 11 → M' 71 k = M 71 k := hg.2
  have m2 : M' 77 = M 77 := hg.1 77 (by omega) (fun x => x)
  exact (hx.up hr).tp (fun q h1 h2 => o q h1) ⟨by rw [o cd (by omega)], o _ (by omega), o _ (by omega)⟩ ⟨fun q hq _ => hg.1 q hq (fun x => x), fun k hk hn => hg.2 k hk (fun z => hn (Or.inl z))⟩ (hx.2.1.1.2.2.2.2.mg (gk _ (by unfold mQ; omega) (by decide)) (fun q _ _ => hg.1 q (by omega) (fun x => x))) ⟨by rw [z_u_at, if_pos rfl, m1], ⟨t, by omega, m1⟩, by rw [o 59 (by omega), m2]; exact htp.2.2.1, by rw [m2]; exact htp.2.2.2⟩ ((hfl.cg (o 60 (by omega))).mg (gk _ (by unfold mQ; omega) (by decide)) (gk _ (by unfold mQ; omega) (by decide)))
theorem d121b (hx : XI n K L I J G M c F N tr cd D ch rr) (hr : rr < 600) {t : Int32} (h : ¬ (0 ≤ t ∧ t ≤ M 71 11)) : z_Ctr l 6 121 [.ref 5, .int t] (n, K, L, I, J, G) 0 0 (x_po n I J M c F N tr (rr + 1) (x_u L D) (.int 0)) := by
  have hS : SS K L G := hx.S
  have t0 : I 5 8 = M 71 11 := hx.2.2.2.2.1.1
  refine z_ctr (by decide) (by decide +kernel) (Nat.le_of_ble_eq_true rfl) (by decide +kernel) (fun X hl hj hd hm hs hsc hQ => ?_)
  show zV X 0 [some (.ref 5), some (.int t)] [] _ 0 0
  have no : zV X 12 [some (.ref 5), some (.int t)] [] (n, K, L, I, J, G) 0 0 := by
    refine zW_ok hj B121_12 12 _ _ _ _ _ b121_12 ?_
    simp only [B121_12, zW, z_wp1, z_ld, z_f0, z_f1, z_f2, z_f3, List.getElem?_cons_zero, List.getElem?_cons_succ, true_and, and_true, Int32.reduceOfInt, z_i10, z_i01, Int32.reduceLT, Int32.reduceLE, Int32.reduceAdd, Int32.reduceSub, z_set, z_set2, z_kil, List.set_cons_zero, List.set_cons_succ, List.take_succ_cons, List.take_zero, List.drop_succ_cons, List.drop_zero, List.reverse_cons, List.reverse_nil, List.nil_append, List.cons_append, List.getD_cons_succ, List.getD_cons_zero, List.getD_nil, List.length_cons, List.length_nil, List.map_cons, List.map_nil, List.sum_cons, List.sum_nil, Nat.reduceAdd, Nat.reduceLeDiff, Value.category, Option.toList, true_or, or_true, z_ua, ↓reduceIte, Nat.reduceEqDiff, eq_self, not_true_eq_false, not_false_eq_true, false_implies, true_implies, Classical.not_not, Nat.le_refl, Nat.zero_le]
    try dsimp only
    exact hQ _ _ (x_po.id hx hr _)
  refine zW_ok hj B121_0 0 _ _ _ _ _ b121_0 ?_
  simp only [B121_0, zW, z_wp1, z_ld, z_f0, z_f1, z_f2, z_f3, List.getElem?_cons_zero, List.getElem?_cons_succ, true_and, and_true, Int32.reduceOfInt, z_i10, z_i01, Int32.reduceLT, Int32.reduceLE, Int32.reduceAdd, Int32.reduceSub, z_set, z_set2, z_kil, List.set_cons_zero, List.set_cons_succ, List.take_succ_cons, List.take_zero, List.drop_succ_cons, List.drop_zero, List.reverse_cons, List.reverse_nil, List.nil_append, List.cons_append, List.getD_cons_succ, List.getD_cons_zero, List.getD_nil, List.length_cons, List.length_nil, List.map_cons, List.map_nil, List.sum_cons, List.sum_nil, Nat.reduceAdd, Nat.reduceLeDiff, Value.category, Option.toList, true_or, or_true, z_ua, ↓reduceIte, Nat.reduceEqDiff, eq_self, not_true_eq_false, not_false_eq_true, false_implies, true_implies, Classical.not_not, Nat.le_refl, Nat.zero_le, sK5 hS, t0]
  try dsimp only
  exact ⟨fun _ => no, fun h1 => ⟨fun h2 => absurd ⟨Int32.not_lt.mp h1, h2⟩ h, fun _ => no⟩⟩
/-- cost -/
theorem d144a (hx : XI n K L I J G M c F N tr cd D ch rr) (hr : rr < 600) {i p : Nat} (hi : i < 12) (hp : 1 ≤ p ∧ p ≤ 9) : z_Ctr l 6 144 [.ref 5, .int (nI i), .int (nI p)] (n, K, L, I, J, G) 0 0 (x_pq n I J (fun M' => mGd (fun _ => False) (fun q => q = 97) M M' ∧ ∀ k, M' 97 k = if k = i then nI p else M 97 k) c F N tr (rr + 1) (x_u L D) (.int 1)) := by
  have hS : SS K L G := hx.S
  have hcd : cd = 12 ∨ cd = 65 := hx.1.2.1.1
  have n1 : ¬ nI i < 0 := nI_pos (by omega)
  have n2 : ¬ (12 : Int32) ≤ nI i := fun q => by
    have := (nI_leI (a := 12) (b := i) (by omega) (by omega)).mp q
    omega
  have n3 : ¬ nI p < 1 := fun q => by
    have := (nI_ltI (a := p) (b := 1) (by omega) (by omega)).mp q
    omega
  have n4 : nI p ≤ 9 := nI_le (b := 9) (by omega) (by omega)
  refine z_ctr (by decide) (by decide +kernel) (Nat.le_of_ble_eq_true rfl) (by decide +kernel) (fun X hl hj hd hm hs hsc hQ => ?_)
  show zV X 0 [some (.ref 5), some (.int (nI i)), some (.int (nI p))] [] _ 0 0
  refine zW_ok hj B144_0 0 _ _ _ _ _ b144_0 ?_
  simp only [B144_0, zW, z_wp1, z_ld, z_f0, z_f1, z_f2, z_f3, List.getElem?_cons_zero, List.getElem?_cons_succ, true_and, and_true, Int32.reduceOfInt, z_i10, z_i01, Int32.reduceLT, Int32.reduceLE, Int32.reduceAdd, Int32.reduceSub, z_set, z_set2, z_kil, List.set_cons_zero, List.set_cons_succ, List.take_succ_cons, List.take_zero, List.drop_succ_cons, List.drop_zero, List.reverse_cons, List.reverse_nil, List.nil_append, List.cons_append, List.getD_cons_succ, List.getD_cons_zero, List.getD_nil, List.length_cons, List.length_nil, List.map_cons, List.map_nil, List.sum_cons, List.sum_nil, Nat.reduceAdd, Nat.reduceLeDiff, Value.category, Option.toList, true_or, or_true, z_ua, ↓reduceIte, Nat.reduceEqDiff, eq_self, not_true_eq_false, not_false_eq_true, false_implies, true_implies, Classical.not_not, Nat.le_refl, Nat.zero_le, n1, n2, n3, n4]
  try dsimp only
  refine zW_ok hj B144_23 23 _ _ _ _ _ b144_23 ?_
  simp only [B144_23, zW, z_wp1, z_ld, z_f0, z_f1, z_f2, z_f3, List.getElem?_cons_zero, List.getElem?_cons_succ, true_and, and_true, Int32.reduceOfInt, z_i10, z_i01, Int32.reduceLT, Int32.reduceLE, Int32.reduceAdd, Int32.reduceSub, z_set, z_set2, z_kil, List.set_cons_zero, List.set_cons_succ, List.take_succ_cons, List.take_zero, List.drop_succ_cons, List.drop_zero, List.reverse_cons, List.reverse_nil, List.nil_append, List.cons_append, List.getD_cons_succ, List.getD_cons_zero, List.getD_nil, List.length_cons, List.length_nil, List.map_cons, List.map_nil, List.sum_cons, List.sum_nil, Nat.reduceAdd, Nat.reduceLeDiff, Value.category, Option.toList, true_or, or_true, z_ua, ↓reduceIte, Nat.reduceEqDiff, eq_self, not_true_eq_false, not_false_eq_true, false_implies, true_implies, Classical.not_not, Nat.le_refl, Nat.zero_le, sK5 hS, sG5_6 hS, sK53 hS]
  try dsimp only
  refine z_callD (c20 (n := n) (I := I) (J := J) hS hi (nI p)) (by omega) (by omega) (by omega) (Nat.le_of_ble_eq_true rfl) ?_
  try simp only [zW, z_wp1, z_ld, z_f0, z_f1, z_f2, z_f3, List.getElem?_cons_zero, List.getElem?_cons_succ, true_and, and_true, Int32.reduceOfInt, z_i10, z_i01, Int32.reduceLT, Int32.reduceLE, Int32.reduceAdd, Int32.reduceSub, z_set, z_set2, z_kil, List.set_cons_zero, List.set_cons_succ, List.take_succ_cons, List.take_zero, List.drop_succ_cons, List.drop_zero, List.reverse_cons, List.reverse_nil, List.nil_append, List.cons_append, List.getD_cons_succ, List.getD_cons_zero, List.getD_nil, List.length_cons, List.length_nil, List.map_cons, List.map_nil, List.sum_cons, List.sum_nil, Nat.reduceAdd, Nat.reduceLeDiff, Value.category, Option.toList, true_or, or_true, z_ua, ↓reduceIte, Nat.reduceEqDiff, eq_self, not_true_eq_false, not_false_eq_true, false_implies, true_implies, Classical.not_not, Nat.le_refl, Nat.zero_le]
  try dsimp only
  generalize hI2 : z_u (z_u I 54 i (nI p)) 53 6 (-1) = I2
  have o : ∀ q, q ≠ 53 → q ≠ 54 → I2 q = I q := fun q h1 h2 => by rw [← hI2, z_u_ne h1, z_u_ne h2]
  have e53 : ∀ k, k ≠ 6 → I2 53 k = I 53 k := fun k hk => by rw [← hI2, z_u_at, if_neg hk, z_u_ne (by decide)]
  have e6 : I2 53 6 = -1 := by rw [← hI2, z_u_at, if_pos rfl]
  have e54 : ∀ k, I2 54 k = if k = i then nI p else I 54 k := fun k => by rw [← hI2, z_u_ne (by decide), z_u_at]
  refine hQ _ _ ⟨rfl, n, K, L, I2, J, G, cd, D, ch, rfl, fun M' hP => ?_, hS, Nat.le_refl _, fun q a b => ⟨o q (by omega) (by omega), rfl⟩, Nat.le_refl _⟩
  obtain ⟨hg, m1⟩ := hP
  obtain ⟨h0, h1, h2, h3, h4, h5, h6, h7, h8, h9, h10, h11⟩ := hx.up hr
  have hD : ∀ i, i < 10 → I2 (D i) = I (D i) := fun i hi => by
    obtain ⟨p, h1, -, h2, -⟩ := h0.2.2.2.1.pl hi
    have hp : 20 ≤ p ∧ p ≤ 57 ∧ p ≠ 53 ∧ p ≠ 54 := by
      revert h1
      simp only [List.mem_cons, List.not_mem_nil, or_false]
      omega
    exact o _ (by omega) (by omega)
  have gk : ∀ k, mQ k → M' 71 k = M 71 k := fun k hk => hg.2 k hk (fun x => x)
  have gq : ∀ q, (72 ≤ q ∧ q ≤ 82) ∨ (90 ≤ q ∧ q ≤ 92) → M' q = M q := fun q hq => hg.1 q (by omega) (by omega)
  have hv : mGv M M' := ⟨fun q hq => gq q (by omega), fun k hk => gk k (by unfold mQ; omega)⟩
  obtain ⟨g1, g2, g3, g6, g7, g8, g9⟩ := mGv.all (L := L) (I := I2) (J := J) (D := D) (c := c) (F := F) (N := N) (tr := tr) (cd := cd) (ch := ch) (rr := rr + 1) hv (h1.1.2.2.2.2.mg (gk _ (by unfold mQ; omega)) (fun q _ _ => gq q (by omega)))
  refine ⟨h0, g1 h1, g2 (h2.cg (fun q _ _ => o q (by omega) (by omega))), g3 (h3.cg (o _ (by omega) (by omega)) (o _ (by omega) (by omega)) (o _ (by omega) (by omega)) (o _ (by omega) (by omega)) (o _ (by omega) (by omega)) (by rw [o cd (by omega) (by omega)]) (o _ (by omega) (by omega)) (o _ (by omega) (by omega))), (h4.cg (by rw [o 5 (by omega) (by omega)]) (o 59 (by omega) (by omega))).mg (gk _ (by unfold mQ; omega)) (gq 77 (by omega)), (h5.cg (o 60 (by omega) (by omega))).mg (gk _ (by unfold mQ; omega)) (gk _ (by unfold mQ; omega)), g6 22 0 0 (h6.cg (o _ (by omega) (by omega)) (hD 0 (by omega)) (hD 1 (by omega)) (hD 3 (by omega))), g6 28 4 1 (h7.cg (o _ (by omega) (by omega)) (hD 4 (by omega)) (hD 5 (by omega)) (hD 7 (by omega))), (h8.mg (fun q _ _ => gq q (by omega)) (gk _ (by unfold mQ; omega)) (gk _ (by unfold mQ; omega)) (gk _ (by unfold mQ; omega)) (gk _ (by unfold mQ; omega))).cg (o _ (by omega) (by omega)) (o _ (by omega) (by omega)) (o _ (by omega) (by omega)) (o _ (by omega) (by omega)), g7 (h9.cg (fun q _ _ => o q (by omega) (by omega)) rfl rfl), g8 (h10.cg (fun q _ _ => o q (by omega) (by omega))), fun k hk => ?_, ?_⟩
  · rw [m1 k, e54 k]
    by_cases z : k = i
    · rw [if_pos z, if_pos z]
      exact ⟨rfl, p, hp.1, hp.2, rfl⟩
    · rw [if_neg z, if_neg z]
      exact h11.1 k hk
  · obtain ⟨-, R, k1, k2, k3, k4, k5⟩ := h11
    refine ⟨R, by rw [e53 5 (by decide)]; exact k1, k2, Or.inl e6, by rw [hD 9 (by omega)]; exact k4, fun q => ?_⟩
    rw [e6] at q
    exact absurd q.symm (nI_neg1 (k := ch) (by omega))
theorem d144b (hx : XI n K L I J G M c F N tr cd D ch rr) (hr : rr < 600) {i p : Int32} (h : ¬ ((0 ≤ i ∧ i < 12) ∧ (1 ≤ p ∧ p ≤ 9))) : z_Ctr l 6 144 [.ref 5, .int i, .int p] (n, K, L, I, J, G) 0 0 (x_po n I J M c F N tr (rr + 1) (x_u L D) (.int 0)) := by
  have hS : SS K L G := hx.S
  refine z_ctr (by decide) (by decide +kernel) (Nat.le_of_ble_eq_true rfl) (by decide +kernel) (fun X hl hj hd hm hs hsc hQ => ?_)
  show zV X 0 [some (.ref 5), some (.int i), some (.int p)] [] _ 0 0
  have no : zV X 21 [some (.ref 5), some (.int i), some (.int p)] [] (n, K, L, I, J, G) 0 0 := by
    refine zW_ok hj B144_21 21 _ _ _ _ _ b144_21 ?_
    simp only [B144_21, zW, z_wp1, z_ld, z_f0, z_f1, z_f2, z_f3, List.getElem?_cons_zero, List.getElem?_cons_succ, true_and, and_true, Int32.reduceOfInt, z_i10, z_i01, Int32.reduceLT, Int32.reduceLE, Int32.reduceAdd, Int32.reduceSub, z_set, z_set2, z_kil, List.set_cons_zero, List.set_cons_succ, List.take_succ_cons, List.take_zero, List.drop_succ_cons, List.drop_zero, List.reverse_cons, List.reverse_nil, List.nil_append, List.cons_append, List.getD_cons_succ, List.getD_cons_zero, List.getD_nil, List.length_cons, List.length_nil, List.map_cons, List.map_nil, List.sum_cons, List.sum_nil, Nat.reduceAdd, Nat.reduceLeDiff, Value.category, Option.toList, true_or, or_true, z_ua, ↓reduceIte, Nat.reduceEqDiff, eq_self, not_true_eq_false, not_false_eq_true, false_implies, true_implies, Classical.not_not, Nat.le_refl, Nat.zero_le]
    try dsimp only
    exact hQ _ _ (x_po.id hx hr _)
  refine zW_ok hj B144_0 0 _ _ _ _ _ b144_0 ?_
  simp only [B144_0, zW, z_wp1, z_ld, z_f0, z_f1, z_f2, z_f3, List.getElem?_cons_zero, List.getElem?_cons_succ, true_and, and_true, Int32.reduceOfInt, z_i10, z_i01, Int32.reduceLT, Int32.reduceLE, Int32.reduceAdd, Int32.reduceSub, z_set, z_set2, z_kil, List.set_cons_zero, List.set_cons_succ, List.take_succ_cons, List.take_zero, List.drop_succ_cons, List.drop_zero, List.reverse_cons, List.reverse_nil, List.nil_append, List.cons_append, List.getD_cons_succ, List.getD_cons_zero, List.getD_nil, List.length_cons, List.length_nil, List.map_cons, List.map_nil, List.sum_cons, List.sum_nil, Nat.reduceAdd, Nat.reduceLeDiff, Value.category, Option.toList, true_or, or_true, z_ua, ↓reduceIte, Nat.reduceEqDiff, eq_self, not_true_eq_false, not_false_eq_true, false_implies, true_implies, Classical.not_not, Nat.le_refl, Nat.zero_le]
  try dsimp only
  exact ⟨fun _ => no, fun h1 => ⟨fun _ => no, fun h2 => ⟨fun _ => no, fun h3 => ⟨fun h4 => absurd ⟨⟨Int32.not_lt.mp h1, Int32.not_le.mp h2⟩, Int32.not_lt.mp h3, h4⟩ h, fun _ => no⟩⟩⟩⟩
end PUB8
