/-! THE LAW'S CALLS IN PAIRS: follow, exploring, rows, crosses, keys -/
theorem l_w10 {what : Int32} {cm : Nat} (hcm : cm ≤ 16) (hi : 10 ≤ what ∧ what ≤ nI (9 + cm)) : (what - 10).toNatClampNeg < cm := by
  obtain ⟨k, hk, ek⟩ := nI_of (x := what) (Int32.not_lt.mpr (Int32.le_trans (show (0 : Int32) ≤ 10 by decide) hi.1))
  rw [ek] at hi ⊢
  have h1 := (nI_leI (a := 10) (b := k) (by omega) (by omega)).mp hi.1
  have h2 := (nI_leI (a := k) (b := 9 + cm) (by omega) (by omega)).mp hi.2
  have e : nI k - 10 = nI (k - 10) := nI_sub' (b := 10) (by omega)
  rw [e, nI_clamp (by omega)]
  omega
theorem l_mCa {ho : Nat → Int32} {S : Nat → Bool} {F N : Nat} {fs fm b b' : Nat → Nat} {what : Int32} (hF : F ≤ 16) (h1 : s_fs F S fs) (h2 : s_fs F S fm) (hb' : c_B (c_C (fun i p => zb (ho i) (fs p)) (s_rk S F) N) (s_rk S F) b') (hb : c_B (c_C (fun i p => zb (ho i) (fm p)) (s_rk S F) N) (s_rk S F) b) : mCa (c_C (fun i p => zb (ho i) (fs p)) (s_rk S F) N) fs (s_rk S F) b' what = mCa (c_C (fun i p => zb (ho i) (fm p)) (s_rk S F) N) fm (s_rk S F) b what := by
  have hn : s_rk S F ≤ 16 := Nat.le_trans (s_rk_n S F) hF
  have e : ∀ p, p < s_rk S F → fs p = fm p := fun p hp => by
    obtain ⟨a1, a2, a3⟩ := h1.at hp
    have := h2 _ a1 a2
    rw [a3] at this
    exact this.symm
  have eC : ∀ v, c_P (s_rk S F) v → c_C (fun i p => zb (ho i) (fs p)) (s_rk S F) N v = c_C (fun i p => zb (ho i) (fm p)) (s_rk S F) N v := fun v hv => c_C_congr (h := fun i q => zb (ho i) q) (v := fun x => fs (v x)) (w := fun x => fm (v x)) (fun i x _ hx => by rw [e _ (hv.1 x hx)])
  obtain ⟨u1, u2⟩ := (hb'.cg eC).un hn hb
  unfold mCa
  rw [eC b' hb'.1, u1]
  split
  · rfl
  · split
    · rename_i hw
      have hk := l_w10 hn hw
      rw [u2 _ hk, e _ (hb.1.1 _ hk)]
    · rfl
theorem m_ex.un {M : Nat → Nat → Int32} {EN E A EN' E' A' : Nat} (h : m_ex M EN E A) (h' : m_ex M EN' E' A') : EN' = EN ∧ E' = E ∧ A' = A := by
  obtain ⟨a1, a2, a3, a4, a5, a6⟩ := h
  obtain ⟨b1, b2, b3, b4, b5, b6⟩ := h'
  rw [a1] at b1
  rw [a3] at b3
  rw [a5] at b5
  exact ⟨((nI_eq (by omega) (by omega)).mp b1).symm, ((nI_eq (by omega) (by omega)).mp b3).symm, ((nI_eq (by omega) (by omega)).mp b5).symm⟩
section LAW3
variable {l : Launch} {n : Nat} {K L : Nat → Nat} {I I' I2 : Nat → Nat → Int32} {J : Nat → Nat → Int64} {G : Nat → Nat → Value} {c F N : Nat} {tr : Nat → (Int32 → Int32) → Int32} {cd : Nat} {D : Nat → Nat} {ch rr u : Nat}
/-- follow -/
theorem l134 (hx : XI n K L I J G (mN I) c F N tr cd D ch rr) (hr : rr < 600) (hu : u ≤ x_u L D) (mode set w : Int32) : lP l l_int 134 214 [.int mode, .int set, .int w] rr u (n, K, L, I, J, G) := by
  have hF := hx.fn
  by_cases h : m_md mode ∧ m_isM N set
  · obtain ⟨mc, ms, h4, hc⟩ := d134a (l := l) (w := w) hx hr h.1 h.2
    refine lP.po hx ⟨_, rfl⟩ hu (by omega) h4 hc (fun n' K' L' I' J' G' hS hst hN => ⟨5, by omega, ?_⟩)
    rw [← hN]
    have hin := m_rl_in (N := N) (by omega) (fun s hs => (x_clb I' c F tr mode hF.2.2.2 s hs).1) (2 ^ N)
    exact lM.g (c214a hS hst h.1 h.2 (m_wk_end (N := N) (fun r hr b hb => (hin r hr).2.1 b hb) 12 set (Nat.le_trans (z_mis_N set N) hF.2.2.2))) (fun _ q => q)
  · exact lP.po hx ⟨_, rfl⟩ hu (by omega) ⟨by omega, by omega⟩ (d134b hx hr h) (fun n' K' L' I' J' G' hS hst hN => ⟨5, by omega, lM.t (c214b hS hst h)⟩)
/-- explore -/
theorem l136 (hx : XI n K L I J G (mN I) c F N tr cd D ch rr) (hr : rr < 600) (hu : u ≤ x_u L D) (mode : Int32) : lP l l_int 136 216 [.int mode] rr u (n, K, L, I, J, G) := by
  have hF := hx.fn
  by_cases h : mode = 0 ∨ mode = 1
  · refine lP.pq ⟨_, rfl⟩ hu (by omega) ⟨by omega, by omega⟩ (d136a hx hr h) (fun n' K' L' I' J' G' hS hN => ⟨4, by omega, ?_⟩)
    have hst := l_st hx hN
    rw [← hN]
    refine z_Ctr.mono (c216a hS hst h) (fun r h' q => ?_)
    obtain ⟨q1, I1, I2, rfl, q2, q3, q4⟩ := q
    have e71 : ∀ k, I2 71 k = if k = 40 then nI F else if k = 42 then 0 else if k = 39 then nI N else if k = 38 then 1 else I1 71 k := fun k => by
      rw [q3 71 (by omega)]
      simp only [z_u_at]
    refine ⟨q1, I2, rfl, fun q hq => ?_, ⟨fun q hq => ?_, fun k hk => ?_⟩, ?_, ⟨?_, by omega, ?_, by omega, ?_, by omega⟩, q4⟩
    · rw [q3 q (by omega), z_u_ne (by omega), z_u_ne (by omega), z_u_ne (by omega), z_u_ne (by omega)]
      exact q2.1 q (by unfold mP; omega)
    · rw [mN_at _ (by omega) (by omega), mN_at _ (by omega) (by omega), q3 q (by omega), z_u_ne (by omega), z_u_ne (by omega), z_u_ne (by omega), z_u_ne (by omega)]
      exact q2.1 q (by unfold mP; omega)
    · show I2 71 k = I' 71 k
      rw [e71, if_neg (by omega), if_neg (by omega), if_neg (by omega), if_neg (by omega)]
      exact q2.2 k (by unfold mQ; omega)
    · show ¬ I2 71 38 = 0
      rw [e71, if_neg (by omega), if_neg (by omega), if_neg (by omega), if_pos rfl]
      decide
    · show I2 71 39 = nI N
      rw [e71, if_neg (by omega), if_neg (by omega), if_pos rfl]
    · show I2 71 40 = nI F
      rw [e71, if_pos rfl]
    · show I2 71 42 = nI 0
      rw [e71, if_neg (by omega), if_pos rfl]
      rfl
  · exact lP.po hx ⟨_, rfl⟩ hu (by omega) ⟨by omega, by omega⟩ (d136b hx hr h) (fun n' K' L' I' J' G' hS hst hN => ⟨4, by omega, lM.t (c216b hS h)⟩)
/-- question -/
theorem l137 (hx : XI n K L I J G (mN I) c F N tr cd D ch rr) (hr : rr < 600) (hu : u ≤ x_u L D) (w : Int32) : lP l l_int 137 219 [.int w] rr u (n, K, L, I, J, G) := by
  rcases hx.2.2.2.2.2.2.2.2.1 with ⟨b0, x0, A0, hA, hA6⟩ | ⟨b0, x0, EN, E, A, v0, h1, h2, h3, h4⟩
  · refine lP.po hx ⟨_, rfl⟩ hu (by omega) ⟨by omega, by omega⟩ (d137b hx hr (fun q => q.2.1 x0)) (fun n' K' L' I' J' G' hS hst hN => ⟨2, by omega, ?_⟩)
    rw [← hN] at x0
    have x1 : I' 71 38 = 0 := x0
    exact lM.t (c219b (EN := 0) (E := 0) (A := 0) hS (fun q => absurd x1 q) (fun q => q.2.1 x1))
  · by_cases hq : (0 ≤ w ∧ w ≤ 1) ∧ ∃ v, m_qu (mN I) EN E A = some v
    · obtain ⟨hw, v, hv⟩ := hq
      refine lP.po hx ⟨_, rfl⟩ hu (by omega) ⟨by omega, by omega⟩ (d137a hx hr x0 h1 h2 h3 h4 b0 hv hw) (fun n' K' L' I' J' G' hS hst hN => ⟨2, by omega, ?_⟩)
      rw [← hN] at x0 h3 hv ⊢
      exact lM.e (c219a (I := I') hS x0 h3 hv hw) (((mF.t I').s 45 _ (by unfold mQ; omega)).s 46 _ (by unfold mQ; omega))
    · refine lP.po hx ⟨_, rfl⟩ hu (by omega) ⟨by omega, by omega⟩ (d137b hx hr (fun q => ?_)) (fun n' K' L' I' J' G' hS hst hN => ⟨2, by omega, ?_⟩)
      · obtain ⟨q1, -, EN', E', A', v, q2, q3⟩ := q
        obtain ⟨rfl, rfl, rfl⟩ := h3.un q2
        exact hq ⟨q1, v, q3⟩
      · rw [← hN] at h3 hq
        exact lM.t (c219b (I := I') hS (fun _ => h3) (fun q => hq ⟨q.1, q.2.2⟩))
/-- yes -/
theorem l138 (hx : XI n K L I J G (mN I) c F N tr cd D ch rr) (hr : rr < 600) (hu : u ≤ x_u L D) : lP l l_int 138 220 [] rr u (n, K, L, I, J, G) := by
  rcases hx.2.2.2.2.2.2.2.2.1 with ⟨b0, x0, A0, hA, hA6⟩ | ⟨b0, x0, EN, E, A, v0, h1, h2, h3, h4⟩
  · refine lP.po hx ⟨_, rfl⟩ hu (by omega) ⟨by omega, by omega⟩ (d138b hx hr (fun q => q.1 x0)) (fun n' K' L' I' J' G' hS hst hN => ⟨2, by omega, ?_⟩)
    rw [← hN] at x0
    have x1 : I' 71 38 = 0 := x0
    exact lM.g (c220b (EN := 0) (E := 0) (A := 0) hS (fun q => absurd x1 q) (fun q => q.1 x1)) (fun _ q => q)
  · by_cases hq : (∃ v, m_qu (mN I) EN E A = some v) ∧ A < 60
    · obtain ⟨⟨v, hv⟩, hA⟩ := hq
      refine lP.pq ⟨_, rfl⟩ hu (by omega) ⟨by omega, by omega⟩ (d138a hx hr x0 h1 h2 h3 h4 b0 hv hA) (fun n' K' L' I' J' G' hS hN => ⟨2, by omega, ?_⟩)
      rw [← hN] at x0 h3 hv ⊢
      refine z_Ctr.mono (c220a (I := I') hS x0 h3 hv hA) (fun r h' q => ?_)
      obtain ⟨q1, I1, I2, rfl, q2, rfl⟩ := q
      refine ⟨q1, _, rfl, fun q hq => ?_, mGd_mN (fun q hq hf => ?_) (fun k hk hf => ?_), ?_, fun k => ?_, fun k => ?_⟩
      · rw [z_u_ne (by omega), z_u_ne (by omega), z_u_ne (by omega)]
        exact q2.1 q (by unfold mP; omega)
      · rw [z_u_ne (by omega), z_u_ne (by omega), z_u_ne (by omega)]
        exact q2.1 q (by unfold mP; omega)
      · rw [z_u_at, if_neg hf, z_u_ne (by omega), z_u_ne (by omega)]
        exact q2.2 k hk
      · rw [mN_at _ (by omega) (by omega), z_u_at, if_pos rfl]
      · show z_u (z_u (z_u I1 91 A (mS EN v)) 92 A (m_clo (I' 90) (mS EN v) (nI (2 ^ EN) - 1) E)) 71 42 (nI (A + 1)) 91 k = if k = A then mS EN v else I' 91 k
        rw [z_u_ne (by omega), z_u_ne (by omega), z_u_at, q2.1 91 (by unfold mP; omega)]
      · show z_u (z_u (z_u I1 91 A (mS EN v)) 92 A (m_clo (I' 90) (mS EN v) (nI (2 ^ EN) - 1) E)) 71 42 (nI (A + 1)) 92 k = if k = A then m_clo (I' 90) (mS EN v) (nI (2 ^ EN) - 1) E else I' 92 k
        rw [z_u_ne (by omega), z_u_at, z_u_ne (by omega), q2.1 92 (by unfold mP; omega)]
    · refine lP.po hx ⟨_, rfl⟩ hu (by omega) ⟨by omega, by omega⟩ (d138b hx hr (fun q => ?_)) (fun n' K' L' I' J' G' hS hst hN => ⟨2, by omega, ?_⟩)
      · obtain ⟨-, EN', E', A', v, q2, q3, q4⟩ := q
        obtain ⟨rfl, rfl, rfl⟩ := h3.un q2
        exact hq ⟨⟨v, q3⟩, q4⟩
      · rw [← hN] at h3 hq
        exact lM.g (c220b (I := I') hS (fun _ => h3) (fun q => hq ⟨q.2.1, q.2.2⟩)) (fun _ q => q)
/-- no -/
theorem l139 (hx : XI n K L I J G (mN I) c F N tr cd D ch rr) (hr : rr < 600) (hu : u ≤ x_u L D) (s : Int32) : lP l l_int 139 221 [.int s] rr u (n, K, L, I, J, G) := by
  rcases hx.2.2.2.2.2.2.2.2.1 with ⟨b0, x0, A0, hA, hA6⟩ | ⟨b0, x0, EN, E, A, v0, h1, h2, h3, h4⟩
  · refine lP.po hx ⟨_, rfl⟩ hu (by omega) ⟨by omega, by omega⟩ (d139b hx hr (fun q => q.1 x0)) (fun n' K' L' I' J' G' hS hst hN => ⟨2, by omega, ?_⟩)
    rw [← hN] at x0
    have x1 : I' 71 38 = 0 := x0
    exact lM.g (c221b (EN := 0) (E := 0) (A := 0) hS (fun q => absurd x1 q) (fun q => q.1 x1)) (fun _ q => q)
  · by_cases hq : ∃ v, m_qu (mN I) EN E A = some v ∧ m_no (mN I) EN E A v s
    · obtain ⟨v, hv, hn⟩ := hq
      refine lP.pq ⟨_, rfl⟩ hu (by omega) ⟨by omega, by omega⟩ (d139a hx hr x0 h1 h2 h3 h4 b0 hv hn) (fun n' K' L' I' J' G' hS hN => ⟨2, by omega, ?_⟩)
      rw [← hN] at x0 h3 hv hn ⊢
      refine z_Ctr.mono (c221a (I := I') hS x0 h3 hv hn) (fun r h' q => ?_)
      obtain ⟨q1, I1, I2, rfl, q2, rfl⟩ := q
      refine ⟨q1, _, rfl, fun q hq => ?_, mGd_mN (fun q hq hf => ?_) (fun k hk hf => ?_), ?_, fun k => ?_⟩
      · rw [z_u_ne (by omega), z_u_ne (by omega)]
        exact q2.1 q (by unfold mP; omega)
      · rw [z_u_ne (by omega), z_u_ne (by omega)]
        exact q2.1 q (by unfold mP; omega)
      · rw [z_u_at, if_neg hf, z_u_ne (by omega)]
        exact q2.2 k hk
      · rw [mN_at _ (by omega) (by omega), z_u_at, if_pos rfl]
      · show z_u (z_u I1 90 E s) 71 40 (nI (E + 1)) 90 k = if k = E then s else I' 90 k
        rw [z_u_ne (by omega), z_u_at, q2.1 90 (by unfold mP; omega)]
    · refine lP.po hx ⟨_, rfl⟩ hu (by omega) ⟨by omega, by omega⟩ (d139b hx hr (fun q => ?_)) (fun n' K' L' I' J' G' hS hst hN => ⟨2, by omega, ?_⟩)
      · obtain ⟨-, EN', E', A', v, q2, q3, q4⟩ := q
        obtain ⟨rfl, rfl, rfl⟩ := h3.un q2
        exact hq ⟨v, q3, q4⟩
      · rw [← hN] at h3 hq
        exact lM.g (c221b (I := I') hS (fun _ => h3) (fun q => hq q.2)) (fun _ q => q)
theorem l_222 (hS : SS K L G) (hE : I 71 38 = 0) {k w : Int32} : z_D l 1 222 [.ref 71, .int k, .int w] (n, K, L, I, J, G) (some (.int (-1))) (n, K, L, m_t I, J, G) := by
  refine z_ctr (by decide) (by decide +kernel) (Nat.le_of_ble_eq_true rfl) (by decide +kernel) (fun X hl hj hd hm hs hsc hQ => ?_)
  show zV X 0 [some (.ref 71), some (.int k), some (.int w)] [] _ 0 0
  have no : zV X 37 [some (.ref 71), some (.int k), some (.int w)] [] (n, K, L, m_t I, J, G) 0 0 := by
    refine zW_ok hj B222_37 37 _ _ _ _ _ b222_37 ?_
    simp only [B222_37, zW, z_wp1, z_ld, z_f0, z_f1, z_f2, z_f3, List.getElem?_cons_zero, List.getElem?_cons_succ, true_and, and_true, Int32.reduceOfInt, z_i10, z_i01, Int32.reduceLT, Int32.reduceLE, Int32.reduceAdd, Int32.reduceSub, z_set, z_set2, z_kil, List.set_cons_zero, List.set_cons_succ, List.take_succ_cons, List.take_zero, List.drop_succ_cons, List.drop_zero, List.reverse_cons, List.reverse_nil, List.nil_append, List.cons_append, List.getD_cons_succ, List.getD_cons_zero, List.getD_nil, List.length_cons, List.length_nil, List.map_cons, List.map_nil, List.sum_cons, List.sum_nil, Nat.reduceAdd, Nat.reduceLeDiff, Value.category, Option.toList, true_or, or_true, z_ua, ↓reduceIte, Nat.reduceEqDiff, eq_self, not_true_eq_false, not_false_eq_true, false_implies, true_implies, Classical.not_not, Nat.le_refl, Nat.zero_le]
    try dsimp only
    exact hQ _ _ ⟨rfl, rfl⟩
  refine zW_ok hj B222_0 0 _ _ _ _ _ b222_0 ?_
  simp only [B222_0, zW, z_wp1, z_ld, z_f0, z_f1, z_f2, z_f3, List.getElem?_cons_zero, List.getElem?_cons_succ, true_and, and_true, Int32.reduceOfInt, z_i10, z_i01, Int32.reduceLT, Int32.reduceLE, Int32.reduceAdd, Int32.reduceSub, z_set, z_set2, z_kil, List.set_cons_zero, List.set_cons_succ, List.take_succ_cons, List.take_zero, List.drop_succ_cons, List.drop_zero, List.reverse_cons, List.reverse_nil, List.nil_append, List.cons_append, List.getD_cons_succ, List.getD_cons_zero, List.getD_nil, List.length_cons, List.length_nil, List.map_cons, List.map_nil, List.sum_cons, List.sum_nil, Nat.reduceAdd, Nat.reduceLeDiff, Value.category, Option.toList, true_or, or_true, z_ua, ↓reduceIte, Nat.reduceEqDiff, eq_self, not_true_eq_false, not_false_eq_true, false_implies, true_implies, Classical.not_not, Nat.le_refl, Nat.zero_le, sK71 hS, hE]
  try dsimp only
  exact no
/-- accepted -/
theorem l140 (hx : XI n K L I J G (mN I) c F N tr cd D ch rr) (hr : rr < 600) (hu : u ≤ x_u L D) (k w : Int32) : lP l l_int 140 222 [.int k, .int w] rr u (n, K, L, I, J, G) := by
  rcases hx.2.2.2.2.2.2.2.2.1 with ⟨b0, x0, A0, hA, hA6⟩ | ⟨b0, x0, EN, E, A, v0, h1, h2, h3, h4⟩
  · refine lP.po hx ⟨_, rfl⟩ hu (by omega) ⟨by omega, by omega⟩ (d140b hx hr (fun q => q.1 x0)) (fun n' K' L' I' J' G' hS hst hN => ⟨1, by omega, ?_⟩)
    rw [← hN] at x0
    have x1 : I' 71 38 = 0 := x0
    exact lM.t (l_222 hS x1)
  · have hA := h3.2.2.2.2
    by_cases hq : (0 ≤ k ∧ k < nI A) ∧ (0 ≤ w ∧ w ≤ 1)
    · obtain ⟨⟨k0, k1⟩, hw⟩ := hq
      obtain ⟨k', hk, rfl⟩ := l_nat k0 k1 (by omega)
      refine lP.po hx ⟨_, rfl⟩ hu (by omega) ⟨by omega, by omega⟩ (d140a hx hr h1 h4 b0 hk hw) (fun n' K' L' I' J' G' hS hst hN => ⟨1, by omega, ?_⟩)
      rw [← hN] at x0 hA ⊢
      exact lM.t (c222a (I := I') hS hA.1 hA.2 x0 hk hw)
    · refine lP.po hx ⟨_, rfl⟩ hu (by omega) ⟨by omega, by omega⟩ (d140b hx hr (fun q => ?_)) (fun n' K' L' I' J' G' hS hst hN => ⟨1, by omega, ?_⟩)
      · obtain ⟨-, ⟨EN', E', A', q2, q3⟩, q4⟩ := q
        obtain ⟨rfl, rfl, rfl⟩ := h3.un q2
        exact hq ⟨q3, q4⟩
      · rw [← hN] at hA
        exact lM.t (c222b (I := I') hS hA.1 hA.2 (fun q => hq ⟨⟨q.2.1.1, (l_le1 (by omega)).mp q.2.1.2⟩, q.2.2⟩))
/-- rows -/
theorem l141 (hx : XI n K L I J G (mN I) c F N tr cd D ch rr) (hr : rr < 600) (hu : u ≤ x_u L D) (mode set marks : Int32) : lP l l_lng 141 229 [.int mode, .int set, .int marks] rr u (n, K, L, I, J, G) := by
  have hF := hx.fn
  by_cases h : m_cr F N mode set marks
  · obtain ⟨s, hs, rfl⟩ := l_set h.2.1 hF.2.1
    obtain ⟨mc, ms, h4, hc⟩ := d141a (l := l) hx hr h.1 hs h.2.2
    refine lP.po hx ⟨_, rfl⟩ hu (by omega) h4 hc (fun n' K' L' I' J' G' hS hst hN => ⟨5, by omega, ?_⟩)
    rw [← hN]
    exact lM.jj (c229a hS hst hs h)
  · exact lP.po hx ⟨_, rfl⟩ hu (by omega) ⟨by omega, by omega⟩ (d141b hx hr h) (fun n' K' L' I' J' G' hS hst hN => ⟨5, by omega, lM.t (c229b hS hst h)⟩)
/-- place -/
theorem l142 (hx : XI n K L I J G (mN I) c F N tr cd D ch rr) (hr : rr < 600) (hu : u ≤ x_u L D) (mode set marks : Int32) (k : Int64) (i : Int32) : lP l l_int 142 230 [.int mode, .int set, .int marks, .long k, .int i] rr u (n, K, L, I, J, G) := by
  have hF := hx.fn
  by_cases h : m_cr F N mode set marks
  · obtain ⟨s, hs, rfl⟩ := l_set h.2.1 hF.2.1
    by_cases h2 : 0 ≤ i ∧ i < nI (s_rk (zb (nI s)) F) ∧ 0 ≤ k
    · have hrk := s_rk_n (zb (nI s)) F
      obtain ⟨i', hi, rfl⟩ := l_nat h2.1 h2.2.1 (by omega)
      obtain ⟨k', hk, rfl⟩ := lN_of h2.2.2
      obtain ⟨mc, ms, h4, hc⟩ := d142a (l := l) hx hr h.1 hs h.2.2 hk hi
      refine lP.po hx ⟨_, rfl⟩ hu (by omega) h4 hc (fun n' K' L' I' J' G' hS hst hN => ⟨5, by omega, ?_⟩)
      rw [← hN]
      exact lM.jj (c230a hS hst hs h hk (by omega))
    · obtain ⟨mc, ms, h4, hc⟩ := d142c (l := l) hx hr h.1 hs h.2.2 h2
      refine lP.po hx ⟨_, rfl⟩ hu (by omega) h4 hc (fun n' K' L' I' J' G' hS hst hN => ⟨5, by omega, ?_⟩)
      by_cases h3 : 0 ≤ k ∧ 0 ≤ i
      · obtain ⟨i', hi, rfl⟩ := nI_of (x := i) (Int32.not_lt.mpr h3.2)
        obtain ⟨k', hk, rfl⟩ := lN_of h3.1
        have hrk := s_rk_n (zb (nI s)) F
        obtain ⟨fs, hfs⟩ := s_fs_ex 16 (zb (nI s))
        have hni : ¬ i' < s_n (s_u (nI s) (nI 0)) F := fun q => by
          rw [e_n hF.2.1 hs hfs] at q
          exact h2 ⟨h3.2, nI_lt q (by omega), h3.1⟩
        have k := c230a (l := l) (n := n') (J := J') hS hst hs h hk hi
        have e : (if k' < mV (mHo I' c F N tr mode marks s) F N s 0 then mPl (mHo I' c F N tr mode marks s) F N s i' 0 k' else -1) = -1 := by
          split
          · unfold mPl
            rw [if_neg hni]
          · rfl
        rw [e] at k
        exact lM.jj k
      · exact lM.t (c230b hS hst (fun q => h3 q.2))
  · exact lP.po hx ⟨_, rfl⟩ hu (by omega) ⟨by omega, by omega⟩ (d142b hx hr h) (fun n' K' L' I' J' G' hS hst hN => ⟨5, by omega, lM.t (c230b hS hst (fun q => h q.1))⟩)
/-- crosses -/
theorem l143 (hx : XI n K L I J G (mN I) c F N tr cd D ch rr) (hr : rr < 600) (hu : u ≤ x_u L D) (mode set marks what : Int32) : lP l l_int 143 234 [.int mode, .int set, .int marks, .int what] rr u (n, K, L, I, J, G) := by
  have hF := hx.fn
  by_cases h : m_cr F N mode set marks ∧ s_rk (zb set) 16 ≤ 8
  · obtain ⟨h, h8⟩ := h
    obtain ⟨s, hs, rfl⟩ := l_set h.2.1 hF.2.1
    obtain ⟨fm, hfm⟩ := s_fs_ex F (zb (nI s))
    obtain ⟨b, hb⟩ := c_B_ex (c_C (fun i p => zb (mHo (mN I) c F N tr mode marks s i) (fm p)) (s_rk (zb (nI s)) F) N) (n := s_rk (zb (nI s)) F) (Nat.le_trans (s_rk_n _ F) hF.2.1)
    refine lP.po hx ⟨_, rfl⟩ hu (by omega) ⟨by omega, by omega⟩ (d143a hx hr h.1 hs h.2.2 h8 hfm hb) (fun n' K' L' I' J' G' hS hst hN => ⟨4, by omega, ?_⟩)
    rw [← hN] at hb ⊢
    refine z_Ctr.mono (c234a hS hst hs h h8) (fun r h' q => ?_)
    obtain ⟨fs, b', q1, q2, q3, I2, rfl, q4⟩ := q
    refine ⟨?_, I2, J', rfl, q4, fun _ _ => rfl⟩
    rw [q3]
    exact congrArg (fun x => some (Value.int x)) (l_mCa (ho := mHo I' c F N tr mode marks s) hF.2.1 q1 hfm q2 hb)
  · exact lP.po hx ⟨_, rfl⟩ hu (by omega) ⟨by omega, by omega⟩ (d143b hx hr h) (fun n' K' L' I' J' G' hS hst hN => ⟨4, by omega, lM.t (c234b hS hst h)⟩)
/-- key -/
theorem l145 (hx : XI n K L I J G (mN I) c F N tr cd D ch rr) (hr : rr < 600) (hu : u ≤ x_u L D) (s w : Int32) : lP l l_int 145 239 [.int s, .int w] rr u (n, K, L, I, J, G) := by
  have hF := hx.fn
  by_cases h : m_isF F s ∧ ¬ s = 0
  · by_cases hw : 0 ≤ w ∧ w ≤ 2
    · obtain ⟨s', hs, rfl⟩ := l_set h.1 hF.2.1
      have h0 : s' ≠ 0 := fun e => h.2 (by rw [e]; rfl)
      obtain ⟨mc, ms, h4, hc⟩ := d145a (l := l) hx hr hs h0 hw
      refine lP.po hx ⟨_, rfl⟩ hu (by omega) h4 hc (fun n' K' L' I' J' G' hS hst hN => ⟨5, by omega, ?_⟩)
      rw [← hN]
      exact lM.g (c239a hS hst hs h0 hw) (fun _ q => q)
    · obtain ⟨mc, ms, h4, hc⟩ := d145c (l := l) hx hr h.1 h.2 hw
      exact lP.po hx ⟨_, rfl⟩ hu (by omega) h4 hc (fun n' K' L' I' J' G' hS hst hN => ⟨5, by omega, lM.t (c239b hS hst (fun q => hw q.2.2))⟩)
  · exact lP.po hx ⟨_, rfl⟩ hu (by omega) ⟨by omega, by omega⟩ (d145b hx hr h) (fun n' K' L' I' J' G' hS hst hN => ⟨5, by omega, lM.t (c239b hS hst (fun q => h ⟨q.1, q.2.1⟩))⟩)
/-- path -/
theorem l146 (hx : XI n K L I J G (mN I) c F N tr cd D ch rr) (hr : rr < 600) (hu : u ≤ x_u L D) (s f w : Int32) : lP l l_int 146 240 [.int s, .int f, .int w] rr u (n, K, L, I, J, G) := by
  have hF := hx.fn
  by_cases h : m_isF F s ∧ (0 ≤ f ∧ f < nI F) ∧ ¬ s >>> (f &&& 31) &&& 1 = 0
  · obtain ⟨h1, h2, h3⟩ := h
    obtain ⟨s', hs, rfl⟩ := l_set h1 hF.2.1
    obtain ⟨f', hf, rfl⟩ := l_nat h2.1 h2.2 (by omega)
    have hz : zb (nI s') f' = true := by
      cases e : zb (nI s') f'
      · exact absurd ((zb_get0 (by omega)).mpr e) h3
      · rfl
    obtain ⟨mc, ms, h4, hc⟩ := d146a (l := l) (w := w) hx hr hf hs hz
    refine lP.po hx ⟨_, rfl⟩ hu (by omega) h4 hc (fun n' K' L' I' J' G' hS hst hN => ⟨5, by omega, ?_⟩)
    rw [← hN]
    exact lM.g (c240a hS hst hf hs hz) (fun _ q => q)
  · exact lP.po hx ⟨_, rfl⟩ hu (by omega) ⟨by omega, by omega⟩ (d146b hx hr h) (fun n' K' L' I' J' G' hS hst hN => ⟨5, by omega, lM.t (c240b hS hst h)⟩)
end LAW3
