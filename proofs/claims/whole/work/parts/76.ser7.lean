/-! Rows of finds of the class: countFrom -/
theorem nI_ushrg {m k : Nat} {w : UInt32} (hw : w.toBitVec % 32#32 = BitVec.ofNat 32 k) (hk : k < 32) (h : m < 2 ^ 31) : ((nI m).toUInt32 >>> w).toInt32 = nI (m / 2 ^ k) := by
  have hm : m / 2 ^ k ≤ m := Nat.div_le_self _ _
  refine Int32.toBitVec_inj.mp ?_
  show ((nI m).toUInt32 >>> w).toBitVec = (nI (m / 2 ^ k)).toBitVec
  rw [UInt32.toBitVec_shiftRight]
  refine BitVec.eq_of_toNat_eq ?_
  have e1 : ((nI m).toUInt32).toBitVec.toNat = m := by
    show (BitVec.ofNat 32 m).toNat = m
    rw [BitVec.toNat_ofNat, Nat.mod_eq_of_lt (by omega)]
  have e2 : (nI (m / 2 ^ k)).toBitVec.toNat = m / 2 ^ k := by
    show (BitVec.ofNat 32 (m / 2 ^ k)).toNat = m / 2 ^ k
    rw [BitVec.toNat_ofNat, Nat.mod_eq_of_lt (by omega)]
  rw [e2]
  show ((nI m).toUInt32.toBitVec >>> (w.toBitVec % 32#32)).toNat = m / 2 ^ k
  rw [hw, BitVec.ushiftRight_eq', BitVec.toNat_ushiftRight, e1, Nat.shiftRight_eq_div_pow, BitVec.toNat_ofNat, Nat.mod_eq_of_lt (show k < 2 ^ 32 by omega)]
theorem nI_sub' {a b : Nat} (h : b ≤ a) : nI a - nI b = nI (a - b) := by
  rw [show nI a = nI (a - b) + nI b by rw [nI_add, Nat.sub_add_cancel h], Int32.add_sub_cancel]
theorem nI_i2l {c : Nat} (h : c < 2 ^ 31) : (nI c).toInt64 = lN c := by
  refine Int64.toInt_inj.mp ?_
  rw [Int32.toInt_toInt64, lN_t (by omega)]
  exact nI_toInt h
section SER7
variable {l : Launch} {n : Nat} {K L : Nat → Nat} {I : Nat → Nat → Int32} {J : Nat → Nat → Int64} {G : Nat → Nat → Value} {ca CL cn bc R t : Nat}
theorem c243 {k : Nat} (hk : k < 65536) : z_D l 0 243 [.int (nI k)] (n, K, L, I, J, G) (some (.int (nI (s_rk (zb (nI k)) 16)))) (n, K, L, I, J, G) := by
  refine z_ctr (by decide) (by decide +kernel) (Nat.le_of_ble_eq_true rfl) (by decide +kernel) (fun X hl hj hd hm hs hsc hQ => ?_)
  show zV X 0 [some (.int (nI k))] [] _ 0 0
  refine zW_ok hj B243_0 0 _ _ _ _ _ b243_0 ?_
  simp only [B243_0, zW, z_wp1, z_ld, z_f0, z_f1, z_f2, z_f3, List.getElem?_cons_zero, List.getElem?_cons_succ, true_and, and_true, Int32.reduceOfInt, z_i10, z_i01, Int32.reduceLT, Int32.reduceLE, Int32.reduceAdd, Int32.reduceSub, z_set, z_set2, z_kil, List.set_cons_zero, List.set_cons_succ, List.take_succ_cons, List.take_zero, List.drop_succ_cons, List.drop_zero, List.reverse_cons, List.reverse_nil, List.nil_append, List.cons_append, List.getD_cons_succ, List.getD_cons_zero, List.getD_nil, List.length_cons, List.length_nil, List.map_cons, List.map_nil, List.sum_cons, List.sum_nil, Nat.reduceAdd, Nat.reduceLeDiff, Value.category, Option.toList, true_or, or_true, z_ua, ↓reduceIte, Nat.reduceEqDiff, eq_self, not_true_eq_false, not_false_eq_true, false_implies, true_implies, Classical.not_not, Nat.le_refl, Nat.zero_le]
  try dsimp only
  refine hQ _ _ ⟨?_, rfl⟩
  have ep : p_e k = s_rk (zb (nI k)) 16 := by
    rw [p_ok hk, p_c_rk]
    exact s_rk_congr (fun p _ => (zb_nI (by omega) p).symm)
  rw [← ep]
  have l1 : ∀ a b : Nat, a &&& b ≤ a := fun a b => Nat.and_le_left
  have u1 : ((nI k).toUInt32 >>> (Int32.toUInt32 1 &&& Int32.toUInt32 31)).toInt32 &&& 1431655765 = nI (k / 2 &&& 1431655765) := by
    rw [nI_ushrg (k := 1) (by decide) (by omega) (by omega), show (1431655765 : Int32) = nI 1431655765 from rfl, nI_and (by omega) (by omega)]
  have h1 := l1 (k / 2) 1431655765
  have u2 : nI k - nI (k / 2 &&& 1431655765) = nI (k - (k / 2 &&& 1431655765)) := nI_sub' (by omega)
  rw [u1, u2]
  generalize ea : k - (k / 2 &&& 1431655765) = a
  have ha : a < 65536 := by omega
  have u3 : nI a &&& 858993459 = nI (a &&& 858993459) := by
    rw [show (858993459 : Int32) = nI 858993459 from rfl, nI_and (by omega) (by omega)]
  have u4 : ((nI a).toUInt32 >>> (Int32.toUInt32 2 &&& Int32.toUInt32 31)).toInt32 &&& 858993459 = nI (a / 4 &&& 858993459) := by
    rw [nI_ushrg (k := 2) (by decide) (by omega) (by omega), show (858993459 : Int32) = nI 858993459 from rfl, nI_and (by omega) (by omega)]
  rw [u3, u4, nI_add]
  have h2 := l1 a 858993459
  have h3 := l1 (a / 4) 858993459
  generalize eb : (a &&& 858993459) + (a / 4 &&& 858993459) = b
  have hb : b < 131072 := by omega
  have u5 : ((nI b).toUInt32 >>> (Int32.toUInt32 4 &&& Int32.toUInt32 31)).toInt32 = nI (b / 16) := nI_ushrg (k := 4) (by decide) (by omega) (by omega)
  have u6 : nI b + nI (b / 16) &&& 252645135 = nI (b + b / 16 &&& 252645135) := by
    rw [nI_add, show (252645135 : Int32) = nI 252645135 from rfl, nI_and (by omega) (by omega)]
  rw [u5, u6]
  have h4 := l1 (b + b / 16) 252645135
  generalize ec : (b + b / 16) &&& 252645135 = c
  have hc : c < 262144 := by omega
  have u7 : ((nI c).toUInt32 >>> (Int32.toUInt32 8 &&& Int32.toUInt32 31)).toInt32 = nI (c / 256) := nI_ushrg (k := 8) (by decide) (by omega) (by omega)
  rw [u7, nI_add]
  generalize ed : c + c / 256 = d
  have u8 : ((nI d).toUInt32 >>> (Int32.toUInt32 16 &&& Int32.toUInt32 31)).toInt32 = nI (d / 65536) := nI_ushrg (k := 16) (by decide) (by omega) (by omega)
  rw [u8, nI_add, show (63 : Int32) = nI 63 from rfl, nI_and (by omega) (by omega)]
  have : p_e k = (d + d / 65536) &&& 63 := by
    subst ed ec eb ea
    rfl
  rw [this]
theorem s_bits_ms {cn bc : Nat} {I : Nat → Nat → Int32} (hc : cn ≤ 16) {t p : Nat} : zb (m_may (I 40) (nI (2 ^ cn - 1)) (nI t) bc) p = true → p < cn := fun h => by
  have := ((m_may_b bc).mp h).1.1
  rw [z_zs_b hc] at this
  simpa using this
abbrev xU (cn t : Nat) : Nat → Bool := s_u (nI (2 ^ cn - 1)) (nI t)
noncomputable abbrev xV (I : Nat → Nat → Int32) (cn bc t : Nat) : Nat := mV (I 40) cn bc (2 ^ cn - 1) t
abbrev z_post (n : Nat) (K L : Nat → Nat) (I : Nat → Nat → Int32) (J : Nat → Nat → Int64) (G : Nat → Nat → Value) (ca CL cn bc R t : Nat) : Option Value → zH → Prop := fun r h' => r = some (.long (lN (xV I cn bc t))) ∧ ∃ J', h' = (n, K, L, I, J', G) ∧ (∀ q, q ≠ ca → J' q = J q) ∧ s_memo J' ca CL cn R (xV I cn bc)
theorem xU_lt (hc : cn ≤ 16) {p : Nat} (hp : p < cn) : xU cn t p = zb (nI t) p := by
  unfold xU s_u
  rw [z_zs_b hc]
  simp [hp]
theorem xBsub (hc : cn ≤ 16) (hb : ∀ b, b < bc → ∀ p, zb (I 40 b) p = true → p < cn) : ∀ i, i < bc → ∀ f, zb (I 40 i) f = true → zb (nI (2 ^ cn - 1)) f = true := fun i hi f hf => by
  rw [z_zs_b hc]
  simpa using hb i hi f hf
theorem c82_loop {X : zX} (hS : SS K L G) (hj : X.2.1 = 82) (hl0 : X.1 = l) {k : Nat} (hd : X.2.2.1 = 2 + (k + 1)) (hm : X.2.2.2.1 = 0) (hs : X.2.2.2.2.1 = 0) (hX : XZ K L G I J ca CL cn bc R) (ht : t < 2 ^ cn) (hk : s_n (xU cn t) cn = k + 1)
    (IH : ∀ t', t' < 2 ^ cn → s_n (xU cn t') cn = k → ∀ J', XZ K L G I J' ca CL cn bc R → s_memo J' ca CL cn R (xV I cn bc) → z_Ctr l (2 + k) 82 [.ref 38, .int (nI t'), .int (nI (cn - k))] (n, K, L, I, J', G) 0 0 (z_post n K L I J' G ca CL cn bc R t'))
    (hQ : ∀ r h', z_post n K L I J G ca CL cn bc R t r h' → X.2.2.2.2.2.2 r h') : ∀ (f m w : Nat) (o : Int32) (J' : Nat → Nat → Int64) (x7 : Option Value), m + f = 16 → (∀ q, q ≠ ca → J' q = J q) → s_memo J' ca CL cn R (xV I cn bc) → (∀ p, zb o p = true → p < cn ∧ s_op cn (s_B bc (I 40)) (xU cn t) p) → (∀ p q, zb o p = true → q < cn → s_mt (s_B bc (I 40)) p q → zb (nI t) q = false → zb o q = true) → s_rk (zb o) cn ≤ f → w + s_sum (fun p => if zb o p = true then mG (I 40) cn bc (2 ^ cn - 1) t p else 0) cn = xV I cn bc t →
      zV X 70 [some (.ref 38), some (.int (nI t)), some (.int (nI (cn - (k + 1)))), some (.long (lN w)), none, some (.int o), some (.int (nI m)), x7] [] (n, K, L, I, J', G) 0 0 := by
  obtain ⟨a1, a2, a3, a4, a5, a6, a7, a8, a9, a10, a11, a12, a13, a14⟩ := id hX
  have z1 := z_zs a8
  have hkc : k + 1 ≤ cn := by have := s_n_le (xU cn t) cn; omega
  have e1 : (nI t).toNatClampNeg = t := nI_clamp (by omega)
  have v1 : vp_in (nI t) CL := vp_in_nI (by omega) (by omega)
  have bV : ∀ q, xV I cn bc q < 2 ^ 45 := fun q => s_V_bd a8
  intro f
  have fin : ∀ (m w : Nat) (o : Int32) (J' : Nat → Nat → Int64) (x6 x7 : Option Value), (∀ q, q ≠ ca → J' q = J q) → s_memo J' ca CL cn R (xV I cn bc) → o = 0 → w + s_sum (fun p => if zb o p = true then mG (I 40) cn bc (2 ^ cn - 1) t p else 0) cn = xV I cn bc t → zV X 136 [some (.ref 38), some (.int (nI t)), some (.int (nI (cn - (k + 1)))), some (.long (lN w)), none, some (.int o), x6, x7] [] (n, K, L, I, J', G) 0 0 := by
    intro m w o J' x6 x7 ho hmm h0 hw
    subst h0
    have e0 : s_sum (fun p => if zb 0 p = true then mG (I 40) cn bc (2 ^ cn - 1) t p else 0) cn = 0 := by
      have : ∀ n, s_sum (fun p => if zb 0 p = true then mG (I 40) cn bc (2 ^ cn - 1) t p else 0) n = 0 := fun n => by
        induction n with
        | zero => rfl
        | succ n ih => rw [s_sum, ih, zb_0]; rfl
      exact this cn
    rw [e0, Nat.add_zero] at hw
    subst hw
    obtain ⟨b1, b2, b3, b4, b5, b6, b7, b8, b9, b10, b11, b12, b13, b14⟩ := id (hX.congr ho)
    refine zW_ok hj B82_136 136 _ _ _ _ _ b82_136 ?_
    simp only [B82_136, zW, z_wp1, z_ld, z_f0, z_f1, z_f2, z_f3, List.getElem?_cons_zero, List.getElem?_cons_succ, true_and, and_true, Int32.reduceOfInt, z_i10, z_i01, Int32.reduceLT, Int32.reduceLE, Int32.reduceAdd, Int32.reduceSub, z_set, z_set2, z_kil, List.set_cons_zero, List.set_cons_succ, List.take_succ_cons, List.take_zero, List.drop_succ_cons, List.drop_zero, List.reverse_cons, List.reverse_nil, List.nil_append, List.cons_append, List.getD_cons_succ, List.getD_cons_zero, List.getD_nil, List.length_cons, List.length_nil, List.map_cons, List.map_nil, List.sum_cons, List.sum_nil, Nat.reduceAdd, Nat.reduceLeDiff, Value.category, Option.toList, true_or, or_true, z_ua, ↓reduceIte, Nat.reduceEqDiff, eq_self, not_true_eq_false, not_false_eq_true, false_implies, true_implies, Classical.not_not, Nat.le_refl, Nat.zero_le, sK38 hS, a1, a2, a3, e1, v1, z_hJ, b11, lN_shl45 a12, lN_pk (bV t)]
    try dsimp only
    refine hQ _ _ ⟨rfl, _, rfl, fun q hq => by rw [z_u_ne hq]; exact ho q hq, fun q hq => ?_⟩
    by_cases e : q = t
    · subst e
      exact ⟨R, xV I cn bc q, Nat.le_refl _, bV q, by rw [z_u_at, if_pos rfl], fun _ _ => rfl⟩
    · rw [z_u_at, if_neg e]
      exact hmm q hq
  induction f with
  | zero =>
    intro m w o J' x7 hf ho hmm hop hcl hrk hw
    have o0 : o = 0 := zb_ext (fun p hp => by
      rw [zb_0]
      cases e : zb o p with
      | false => rfl
      | true =>
        have q := s_rk_0 (b := zb o) (n := cn) (p := p) (by omega) (hop p e).1
        rw [q] at e
        cases e)
    have em : m = 16 := by omega
    subst em
    have n16 : (16 : Int32) ≤ nI 16 := by decide
    refine zW_ok hj B82_70 70 _ _ _ _ _ b82_70 ?_
    simp only [B82_70, zW, z_wp1, z_ld, z_f0, z_f1, z_f2, z_f3, List.getElem?_cons_zero, List.getElem?_cons_succ, true_and, and_true, Int32.reduceOfInt, z_i10, z_i01, Int32.reduceLT, Int32.reduceLE, Int32.reduceAdd, Int32.reduceSub, z_set, z_set2, z_kil, List.set_cons_zero, List.set_cons_succ, List.take_succ_cons, List.take_zero, List.drop_succ_cons, List.drop_zero, List.reverse_cons, List.reverse_nil, List.nil_append, List.cons_append, List.getD_cons_succ, List.getD_cons_zero, List.getD_nil, List.length_cons, List.length_nil, List.map_cons, List.map_nil, List.sum_cons, List.sum_nil, Nat.reduceAdd, Nat.reduceLeDiff, Value.category, Option.toList, true_or, or_true, z_ua, ↓reduceIte, Nat.reduceEqDiff, eq_self, not_true_eq_false, not_false_eq_true, false_implies, true_implies, Classical.not_not, Nat.le_refl, Nat.zero_le, n16]
    try dsimp only
    exact fin 16 w o J' _ _ ho hmm o0 hw
  | succ f ih =>
    intro m w o J' x7 hf ho hmm hop hcl hrk hw
    have n16 : ¬ (16 : Int32) ≤ nI m := fun q => by
      have := (nI_leI (a := 16) (b := m) (by omega) (by omega)).mp q
      omega
    by_cases o0 : o = 0
    · refine zW_ok hj B82_70 70 _ _ _ _ _ b82_70 ?_
      simp only [B82_70, zW, z_wp1, z_ld, z_f0, z_f1, z_f2, z_f3, List.getElem?_cons_zero, List.getElem?_cons_succ, true_and, and_true, Int32.reduceOfInt, z_i10, z_i01, Int32.reduceLT, Int32.reduceLE, Int32.reduceAdd, Int32.reduceSub, z_set, z_set2, z_kil, List.set_cons_zero, List.set_cons_succ, List.take_succ_cons, List.take_zero, List.drop_succ_cons, List.drop_zero, List.reverse_cons, List.reverse_nil, List.nil_append, List.cons_append, List.getD_cons_succ, List.getD_cons_zero, List.getD_nil, List.length_cons, List.length_nil, List.map_cons, List.map_nil, List.sum_cons, List.sum_nil, Nat.reduceAdd, Nat.reduceLeDiff, Value.category, Option.toList, true_or, or_true, z_ua, ↓reduceIte, Nat.reduceEqDiff, eq_self, not_true_eq_false, not_false_eq_true, false_implies, true_implies, Classical.not_not, Nat.le_refl, Nat.zero_le, n16, o0]
      try dsimp only
      have := fin m w o J' (some (.int (nI m))) x7 ho hmm o0 hw
      rw [o0] at this
      exact this
    · obtain ⟨i, hi, hio⟩ := zb_ne0.mp o0
      obtain ⟨p, -, hp, hlow⟩ := z_low0 hio
      obtain ⟨hpc, hpo⟩ := hop p hp
      have h2p : 2 ^ p < 2 ^ 16 := Nat.pow_lt_pow_right (by omega) (by omega)
      have elow : o &&& -o = nI (2 ^ p) := zb_ext (fun q hq => by
        rw [hlow, ← z_shl1 (show p < 17 by omega), zb_sh1 (by omega)])
      have hup : zb (nI t) p = false := by rw [← xU_lt a8 hpc]; exact hpo.1
      have kb : ∀ q, zb (I 41 p &&& (nI t ^^^ -1)) q = true ↔ q < cn ∧ s_mt (s_B bc (I 40)) p q ∧ zb (nI t) q = false := fun q => by
        rw [z_xn, zb_and, zb_not, Bool.and_eq_true, a14 p hpc q]
        constructor
        · rintro ⟨⟨x, y⟩, z⟩
          simp at z
          exact ⟨x, y, z.2⟩
        · rintro ⟨x, y, z⟩
          exact ⟨⟨x, y⟩, by simp [z]; omega⟩
      obtain ⟨kk, hkk, ekk⟩ := zb_toN (s := I 41 p &&& (nI t ^^^ -1)) (N := 16) (by omega) (fun q hq => by
        cases e : zb (I 41 p &&& (nI t ^^^ -1)) q with
        | false => rfl
        | true => have := ((kb q).mp e).1; omega)
      rw [ekk] at kb
      have h2 : nI t ||| nI (2 ^ p) = nI (t ||| 2 ^ p) := nI_or (by omega) (by omega)
      obtain ⟨n1, n2, n3⟩ := s_next (F := cn) (s := 2 ^ cn - 1) a8 z1.1 (z_zs_s ht) hpc (by rw [z_zs_b a8]; simpa using hpc) hup
      have hA := s_u_add (s := 2 ^ cn - 1) (t := t) (f := p) n3 (by omega)
      have hn2 : s_n (xU cn (t ||| 2 ^ p)) cn = k := by
        have q := s_n_add hpc hpo.1
        rw [xU, hA]
        rw [hk] at q
        exact (Nat.succ.inj q).symm
      have htp : t ||| 2 ^ p < 2 ^ cn := Nat.or_lt_two_pow ht (Nat.pow_lt_pow_right (by omega) hpc)
      have ec : nI (cn - (k + 1)) + 1 = nI (cn - k) := by rw [nI_1]; congr 1; omega
      have er : s_rk (zb (nI kk)) 16 = s_rk (zb (nI kk)) cn := s_rk_ext (fun q hq => by
        cases e : zb (nI kk) q with
        | false => rfl
        | true => have := ((kb q).mp e).1; omega) a8
      have kin : ∀ q, q < cn → zb (nI kk) q = true → zb o q = true ∧ mG (I 40) cn bc (2 ^ cn - 1) t q = xV I cn bc (t ||| 2 ^ p) := fun q hq hz => by
        obtain ⟨c1, c2, c3⟩ := (kb q).mp hz
        have oq := hcl p q hp hq c2 c3
        refine ⟨oq, ?_⟩
        rw [mG, s_g_y (hop q oq).2, xV, mV, hA]
        exact ((s_E.refl _).add hpc hpo.1 hq (hop q oq).2.1 c2).V
      have hsum := s_sum_kin (n := cn) kin
      have hb' : ∀ q, zb (o &&& (nI kk ^^^ -1)) q = (zb o q && !zb (nI kk) q) := fun q => by
        rw [z_xn, zb_and, zb_not]
        cases e : zb o q with
        | false => rfl
        | true => simp [zb_lt e]
      have hkc3 : s_rk (zb (nI kk)) cn < 2 ^ 31 := by
        have := s_rk_le (b := fun _ => true) (b' := zb (nI kk)) (n := cn) (fun _ _ _ => rfl)
        have h3 : ∀ n, s_rk (fun _ => true) n = n := fun n => by
          induction n with
          | zero => rfl
          | succ n ih => rw [s_rk, ih]; rfl
        rw [h3] at this
        omega
      subst hl0
      refine zW_ok hj B82_70 70 _ _ _ _ _ b82_70 ?_
      simp only [B82_70, zW, z_wp1, z_ld, z_f0, z_f1, z_f2, z_f3, List.getElem?_cons_zero, List.getElem?_cons_succ, true_and, and_true, Int32.reduceOfInt, z_i10, z_i01, Int32.reduceLT, Int32.reduceLE, Int32.reduceAdd, Int32.reduceSub, z_set, z_set2, z_kil, List.set_cons_zero, List.set_cons_succ, List.take_succ_cons, List.take_zero, List.drop_succ_cons, List.drop_zero, List.reverse_cons, List.reverse_nil, List.nil_append, List.cons_append, List.getD_cons_succ, List.getD_cons_zero, List.getD_nil, List.length_cons, List.length_nil, List.map_cons, List.map_nil, List.sum_cons, List.sum_nil, Nat.reduceAdd, Nat.reduceLeDiff, Value.category, Option.toList, true_or, or_true, z_ua, ↓reduceIte, Nat.reduceEqDiff, eq_self, not_true_eq_false, not_false_eq_true, false_implies, true_implies, Classical.not_not, Nat.le_refl, Nat.zero_le, sK38 hS, n16, o0]
      try dsimp only
      refine z_callD (c84 (n := n) (K := K) (L := L) (I := I) (J := J') (G := G) o) (by omega) (by omega) (by omega) (Nat.le_of_ble_eq_true rfl) ?_
      try simp only [zW, z_wp1, z_ld, z_f0, z_f1, z_f2, z_f3, List.getElem?_cons_zero, List.getElem?_cons_succ, true_and, and_true, Int32.reduceOfInt, z_i10, z_i01, Int32.reduceLT, Int32.reduceLE, Int32.reduceAdd, Int32.reduceSub, z_set, z_set2, z_kil, List.set_cons_zero, List.set_cons_succ, List.take_succ_cons, List.take_zero, List.drop_succ_cons, List.drop_zero, List.reverse_cons, List.reverse_nil, List.nil_append, List.cons_append, List.getD_cons_succ, List.getD_cons_zero, List.getD_nil, List.length_cons, List.length_nil, List.map_cons, List.map_nil, List.sum_cons, List.sum_nil, Nat.reduceAdd, Nat.reduceLeDiff, Value.category, Option.toList, true_or, or_true, z_ua, ↓reduceIte, Nat.reduceEqDiff, eq_self, not_true_eq_false, not_false_eq_true, false_implies, true_implies, Classical.not_not, Nat.le_refl, Nat.zero_le, sK38 hS, elow]
      try dsimp only
      refine z_callD (c83 (I := I) (J := J') hS a7 a8 hpc) (by omega) (by omega) (by omega) (Nat.le_of_ble_eq_true rfl) ?_
      try simp only [zW, z_wp1, z_ld, z_f0, z_f1, z_f2, z_f3, List.getElem?_cons_zero, List.getElem?_cons_succ, true_and, and_true, Int32.reduceOfInt, z_i10, z_i01, Int32.reduceLT, Int32.reduceLE, Int32.reduceAdd, Int32.reduceSub, z_set, z_set2, z_kil, List.set_cons_zero, List.set_cons_succ, List.take_succ_cons, List.take_zero, List.drop_succ_cons, List.drop_zero, List.reverse_cons, List.reverse_nil, List.nil_append, List.cons_append, List.getD_cons_succ, List.getD_cons_zero, List.getD_nil, List.length_cons, List.length_nil, List.map_cons, List.map_nil, List.sum_cons, List.sum_nil, Nat.reduceAdd, Nat.reduceLeDiff, Value.category, Option.toList, true_or, or_true, z_ua, ↓reduceIte, Nat.reduceEqDiff, eq_self, not_true_eq_false, not_false_eq_true, false_implies, true_implies, Classical.not_not, Nat.le_refl, Nat.zero_le, sK38 hS, ekk]
      try dsimp only
      refine z_callD (c243 (n := n) (K := K) (L := L) (I := I) (J := J') (G := G) hkk) (by omega) (by omega) (by omega) (Nat.le_of_ble_eq_true rfl) ?_
      try simp only [zW, z_wp1, z_ld, z_f0, z_f1, z_f2, z_f3, List.getElem?_cons_zero, List.getElem?_cons_succ, true_and, and_true, Int32.reduceOfInt, z_i10, z_i01, Int32.reduceLT, Int32.reduceLE, Int32.reduceAdd, Int32.reduceSub, z_set, z_set2, z_kil, List.set_cons_zero, List.set_cons_succ, List.take_succ_cons, List.take_zero, List.drop_succ_cons, List.drop_zero, List.reverse_cons, List.reverse_nil, List.nil_append, List.cons_append, List.getD_cons_succ, List.getD_cons_zero, List.getD_nil, List.length_cons, List.length_nil, List.map_cons, List.map_nil, List.sum_cons, List.sum_nil, Nat.reduceAdd, Nat.reduceLeDiff, Value.category, Option.toList, true_or, or_true, z_ua, ↓reduceIte, Nat.reduceEqDiff, eq_self, not_true_eq_false, not_false_eq_true, false_implies, true_implies, Classical.not_not, Nat.le_refl, Nat.zero_le, sK38 hS, er, nI_i2l hkc3]
      try dsimp only
      refine z_callD (c84 (n := n) (K := K) (L := L) (I := I) (J := J') (G := G) o) (by omega) (by omega) (by omega) (Nat.le_of_ble_eq_true rfl) ?_
      try simp only [zW, z_wp1, z_ld, z_f0, z_f1, z_f2, z_f3, List.getElem?_cons_zero, List.getElem?_cons_succ, true_and, and_true, Int32.reduceOfInt, z_i10, z_i01, Int32.reduceLT, Int32.reduceLE, Int32.reduceAdd, Int32.reduceSub, z_set, z_set2, z_kil, List.set_cons_zero, List.set_cons_succ, List.take_succ_cons, List.take_zero, List.drop_succ_cons, List.drop_zero, List.reverse_cons, List.reverse_nil, List.nil_append, List.cons_append, List.getD_cons_succ, List.getD_cons_zero, List.getD_nil, List.length_cons, List.length_nil, List.map_cons, List.map_nil, List.sum_cons, List.sum_nil, Nat.reduceAdd, Nat.reduceLeDiff, Value.category, Option.toList, true_or, or_true, z_ua, ↓reduceIte, Nat.reduceEqDiff, eq_self, not_true_eq_false, not_false_eq_true, false_implies, true_implies, Classical.not_not, Nat.le_refl, Nat.zero_le, sK38 hS, elow, h2, ec]
      try dsimp only
      refine z_callQ (IH (t ||| 2 ^ p) htp hn2 J' (hX.congr ho) hmm) (by omega) (by omega) (by omega) (Nat.le_of_ble_eq_true rfl) ?_
      rintro r h' ⟨rfl, J2, rfl, o2, m2⟩
      simp only [zW, z_wp1, z_ld, z_f0, z_f1, z_f2, z_f3, List.getElem?_cons_zero, List.getElem?_cons_succ, true_and, and_true, Int32.reduceOfInt, z_i10, z_i01, Int32.reduceLT, Int32.reduceLE, Int32.reduceAdd, Int32.reduceSub, z_set, z_set2, z_kil, List.set_cons_zero, List.set_cons_succ, List.take_succ_cons, List.take_zero, List.drop_succ_cons, List.drop_zero, List.reverse_cons, List.reverse_nil, List.nil_append, List.cons_append, List.getD_cons_succ, List.getD_cons_zero, List.getD_nil, List.length_cons, List.length_nil, List.map_cons, List.map_nil, List.sum_cons, List.sum_nil, Nat.reduceAdd, Nat.reduceLeDiff, Value.category, Option.toList, true_or, or_true, z_ua, ↓reduceIte, Nat.reduceEqDiff, eq_self, not_true_eq_false, not_false_eq_true, false_implies, true_implies, Classical.not_not, Nat.le_refl, Nat.zero_le, sK38 hS, lN_mul, lN_add, nI_1]
      try dsimp only
      refine ih (m + 1) _ _ J2 _ (by omega) (fun q hq => (o2 q hq).trans (ho q hq)) m2 (fun q hq => ?_) (fun q r hq hr hmt hu => ?_) ?_ ?_
      · rw [hb', Bool.and_eq_true] at hq
        exact hop q hq.1
      · rw [hb', Bool.and_eq_true] at hq ⊢
        refine ⟨hcl q r hq.1 hr hmt hu, ?_⟩
        cases e : zb (nI kk) r with
        | false => rfl
        | true =>
          obtain ⟨c1, c2, c3⟩ := (kb r).mp e
          obtain ⟨q1, q2⟩ := hop q hq.1
          have : zb (nI kk) q = true := (kb q).mpr ⟨q1, fun c hc => by rw [c2 c hc, hmt c hc], by rw [← xU_lt a8 q1]; exact q2.1⟩
          rw [this] at hq
          simp at hq
      · have := s_rk_sub (b := zb o) (b' := zb (o &&& (nI kk ^^^ -1))) (p := p) (n := cn) (fun q _ hq => by rw [hb', Bool.and_eq_true] at hq; exact hq.1) hpc hp (by rw [hb', (kb p).mpr ⟨hpc, fun _ _ => rfl, hup⟩]; simp)
        omega
      · rw [← hw, hsum]
        have : s_sum (fun p => if zb (o &&& (nI kk ^^^ -1)) p = true then mG (I 40) cn bc (2 ^ cn - 1) t p else 0) cn = s_sum (fun p => if (zb o p && !zb (nI kk) p) = true then mG (I 40) cn bc (2 ^ cn - 1) t p else 0) cn := s_sum_congr (fun q _ => by rw [hb'])
        rw [this]
        omega
/-- countFrom -/
theorem c82 (hS : SS K L G) : ∀ (k t : Nat), t < 2 ^ cn → s_n (xU cn t) cn = k → ∀ J, XZ K L G I J ca CL cn bc R → s_memo J ca CL cn R (xV I cn bc) → z_Ctr l (2 + k) 82 [.ref 38, .int (nI t), .int (nI (cn - k))] (n, K, L, I, J, G) 0 0 (z_post n K L I J G ca CL cn bc R t) := by
  intro k
  induction k with
  | zero =>
    intro t ht hk J hX hmm
    obtain ⟨a1, a2, a3, a4, a5, a6, a7, a8, a9, a10, a11, a12, a13, a14⟩ := id hX
    have z1 := z_zs a8
    have e : t = 2 ^ cn - 1 := Classical.byContradiction (fun q => s_u_ne a8 z1.1 (z_zs_s ht) q hk)
    subst e
    refine z_ctr (by decide) (by decide +kernel) (Nat.le_of_ble_eq_true rfl) (by decide +kernel) (fun X hl hj hd hm hs hsc hQ => ?_)
    show zV X 0 [some (.ref 38), some (.int (nI (2 ^ cn - 1))), some (.int (nI (cn - 0))), none, none, none, none, none] [] _ 0 0
    refine zW_ok hj B82_0 0 _ _ _ _ _ b82_0 ?_
    simp only [B82_0, zW, z_wp1, z_ld, z_f0, z_f1, z_f2, z_f3, List.getElem?_cons_zero, List.getElem?_cons_succ, true_and, and_true, Int32.reduceOfInt, z_i10, z_i01, Int32.reduceLT, Int32.reduceLE, Int32.reduceAdd, Int32.reduceSub, z_set, z_set2, z_kil, List.set_cons_zero, List.set_cons_succ, List.take_succ_cons, List.take_zero, List.drop_succ_cons, List.drop_zero, List.reverse_cons, List.reverse_nil, List.nil_append, List.cons_append, List.getD_cons_succ, List.getD_cons_zero, List.getD_nil, List.length_cons, List.length_nil, List.map_cons, List.map_nil, List.sum_cons, List.sum_nil, Nat.reduceAdd, Nat.reduceLeDiff, Value.category, Option.toList, true_or, or_true, z_ua, ↓reduceIte, Nat.reduceEqDiff, eq_self, not_true_eq_false, not_false_eq_true, false_implies, true_implies, Classical.not_not, Nat.le_refl, Nat.zero_le, sK38 hS]
    try dsimp only
    refine z_callD (c78 (I := I) (J := J) hS a7 a8) (by omega) (by omega) (by omega) (Nat.le_of_ble_eq_true rfl) ?_
    try simp only [zW, z_wp1, z_ld, z_f0, z_f1, z_f2, z_f3, List.getElem?_cons_zero, List.getElem?_cons_succ, true_and, and_true, Int32.reduceOfInt, z_i10, z_i01, Int32.reduceLT, Int32.reduceLE, Int32.reduceAdd, Int32.reduceSub, z_set, z_set2, z_kil, List.set_cons_zero, List.set_cons_succ, List.take_succ_cons, List.take_zero, List.drop_succ_cons, List.drop_zero, List.reverse_cons, List.reverse_nil, List.nil_append, List.cons_append, List.getD_cons_succ, List.getD_cons_zero, List.getD_nil, List.length_cons, List.length_nil, List.map_cons, List.map_nil, List.sum_cons, List.sum_nil, Nat.reduceAdd, Nat.reduceLeDiff, Value.category, Option.toList, true_or, or_true, z_ua, ↓reduceIte, Nat.reduceEqDiff, eq_self, not_true_eq_false, not_false_eq_true, false_implies, true_implies, Classical.not_not, Nat.le_refl, Nat.zero_le, sK38 hS]
    try dsimp only
    refine zW_ok hj B82_16 16 _ _ _ _ _ b82_16 ?_
    simp only [B82_16, zW, z_wp1, z_ld, z_f0, z_f1, z_f2, z_f3, List.getElem?_cons_zero, List.getElem?_cons_succ, true_and, and_true, Int32.reduceOfInt, z_i10, z_i01, Int32.reduceLT, Int32.reduceLE, Int32.reduceAdd, Int32.reduceSub, z_set, z_set2, z_kil, List.set_cons_zero, List.set_cons_succ, List.take_succ_cons, List.take_zero, List.drop_succ_cons, List.drop_zero, List.reverse_cons, List.reverse_nil, List.nil_append, List.cons_append, List.getD_cons_succ, List.getD_cons_zero, List.getD_nil, List.length_cons, List.length_nil, List.map_cons, List.map_nil, List.sum_cons, List.sum_nil, Nat.reduceAdd, Nat.reduceLeDiff, Value.category, Option.toList, true_or, or_true, z_ua, ↓reduceIte, Nat.reduceEqDiff, eq_self, not_true_eq_false, not_false_eq_true, false_implies, true_implies, Classical.not_not, Nat.le_refl, Nat.zero_le, sK38 hS]
    try dsimp only
    refine z_callD (c78 (I := I) (J := J) hS a7 a8) (by omega) (by omega) (by omega) (Nat.le_of_ble_eq_true rfl) ?_
    try simp only [zW, z_wp1, z_ld, z_f0, z_f1, z_f2, z_f3, List.getElem?_cons_zero, List.getElem?_cons_succ, true_and, and_true, Int32.reduceOfInt, z_i10, z_i01, Int32.reduceLT, Int32.reduceLE, Int32.reduceAdd, Int32.reduceSub, z_set, z_set2, z_kil, List.set_cons_zero, List.set_cons_succ, List.take_succ_cons, List.take_zero, List.drop_succ_cons, List.drop_zero, List.reverse_cons, List.reverse_nil, List.nil_append, List.cons_append, List.getD_cons_succ, List.getD_cons_zero, List.getD_nil, List.length_cons, List.length_nil, List.map_cons, List.map_nil, List.sum_cons, List.sum_nil, Nat.reduceAdd, Nat.reduceLeDiff, Value.category, Option.toList, true_or, or_true, z_ua, ↓reduceIte, Nat.reduceEqDiff, eq_self, not_true_eq_false, not_false_eq_true, false_implies, true_implies, Classical.not_not, Nat.le_refl, Nat.zero_le, sK38 hS]
    try dsimp only
    refine zW_ok hj B82_29 29 _ _ _ _ _ b82_29 ?_
    simp only [B82_29, zW, z_wp1, z_ld, z_f0, z_f1, z_f2, z_f3, List.getElem?_cons_zero, List.getElem?_cons_succ, true_and, and_true, Int32.reduceOfInt, z_i10, z_i01, Int32.reduceLT, Int32.reduceLE, Int32.reduceAdd, Int32.reduceSub, z_set, z_set2, z_kil, List.set_cons_zero, List.set_cons_succ, List.take_succ_cons, List.take_zero, List.drop_succ_cons, List.drop_zero, List.reverse_cons, List.reverse_nil, List.nil_append, List.cons_append, List.getD_cons_succ, List.getD_cons_zero, List.getD_nil, List.length_cons, List.length_nil, List.map_cons, List.map_nil, List.sum_cons, List.sum_nil, Nat.reduceAdd, Nat.reduceLeDiff, Value.category, Option.toList, true_or, or_true, z_ua, ↓reduceIte, Nat.reduceEqDiff, eq_self, not_true_eq_false, not_false_eq_true, false_implies, true_implies, Classical.not_not, Nat.le_refl, Nat.zero_le]
    try dsimp only
    refine hQ _ _ ⟨?_, J, rfl, fun _ _ => rfl, hmm⟩
    rw [xV, mV, s_V_0 hk]
    rfl
  | succ k ih =>
    intro t ht hk J hX hmm
    obtain ⟨a1, a2, a3, a4, a5, a6, a7, a8, a9, a10, a11, a12, a13, a14⟩ := id hX
    have z1 := z_zs a8
    have hkc : k + 1 ≤ cn := by have := s_n_le (xU cn t) cn; omega
    have ne : ¬ nI t = nI (2 ^ cn - 1) := fun q => by
      have := (nI_eq (by omega) (by omega)).mp q
      subst this
      rw [xU, s_u_all] at hk
      omega
    have e1 : (nI t).toNatClampNeg = t := nI_clamp (by omega)
    have v1 : vp_in (nI t) CL := vp_in_nI (by omega) (by omega)
    obtain ⟨r, v, hr, hv, eJ, hrv⟩ := hmm t (by omega)
    have d1 : (r * 2 ^ 45 + v) / 2 ^ 45 = r := by omega
    have d2 : (r * 2 ^ 45 + v) % 2 ^ 45 = v := by omega
    have dl : nI (cn - (k + 1)) < nI cn := nI_lt (by omega) (by omega)
    refine z_ctr (by decide) (by decide +kernel) (Nat.le_of_ble_eq_true rfl) (by decide +kernel) (fun X hl hj hd hm hs hsc hQ => ?_)
    show zV X 0 [some (.ref 38), some (.int (nI t)), some (.int (nI (cn - (k + 1)))), none, none, none, none, none] [] _ 0 0
    refine zW_ok hj B82_0 0 _ _ _ _ _ b82_0 ?_
    simp only [B82_0, zW, z_wp1, z_ld, z_f0, z_f1, z_f2, z_f3, List.getElem?_cons_zero, List.getElem?_cons_succ, true_and, and_true, Int32.reduceOfInt, z_i10, z_i01, Int32.reduceLT, Int32.reduceLE, Int32.reduceAdd, Int32.reduceSub, z_set, z_set2, z_kil, List.set_cons_zero, List.set_cons_succ, List.take_succ_cons, List.take_zero, List.drop_succ_cons, List.drop_zero, List.reverse_cons, List.reverse_nil, List.nil_append, List.cons_append, List.getD_cons_succ, List.getD_cons_zero, List.getD_nil, List.length_cons, List.length_nil, List.map_cons, List.map_nil, List.sum_cons, List.sum_nil, Nat.reduceAdd, Nat.reduceLeDiff, Value.category, Option.toList, true_or, or_true, z_ua, ↓reduceIte, Nat.reduceEqDiff, eq_self, not_true_eq_false, not_false_eq_true, false_implies, true_implies, Classical.not_not, Nat.le_refl, Nat.zero_le, sK38 hS]
    try dsimp only
    refine z_callD (c78 (I := I) (J := J) hS a7 a8) (by omega) (by omega) (by omega) (Nat.le_of_ble_eq_true rfl) ?_
    try simp only [zW, z_wp1, z_ld, z_f0, z_f1, z_f2, z_f3, List.getElem?_cons_zero, List.getElem?_cons_succ, true_and, and_true, Int32.reduceOfInt, z_i10, z_i01, Int32.reduceLT, Int32.reduceLE, Int32.reduceAdd, Int32.reduceSub, z_set, z_set2, z_kil, List.set_cons_zero, List.set_cons_succ, List.take_succ_cons, List.take_zero, List.drop_succ_cons, List.drop_zero, List.reverse_cons, List.reverse_nil, List.nil_append, List.cons_append, List.getD_cons_succ, List.getD_cons_zero, List.getD_nil, List.length_cons, List.length_nil, List.map_cons, List.map_nil, List.sum_cons, List.sum_nil, Nat.reduceAdd, Nat.reduceLeDiff, Value.category, Option.toList, true_or, or_true, z_ua, ↓reduceIte, Nat.reduceEqDiff, eq_self, not_true_eq_false, not_false_eq_true, false_implies, true_implies, Classical.not_not, Nat.le_refl, Nat.zero_le, sK38 hS, ne, a7, dl]
    try dsimp only
    refine zW_ok hj B82_30 30 _ _ _ _ _ b82_30 ?_
    simp only [B82_30, zW, z_wp1, z_ld, z_f0, z_f1, z_f2, z_f3, List.getElem?_cons_zero, List.getElem?_cons_succ, true_and, and_true, Int32.reduceOfInt, z_i10, z_i01, Int32.reduceLT, Int32.reduceLE, Int32.reduceAdd, Int32.reduceSub, z_set, z_set2, z_kil, List.set_cons_zero, List.set_cons_succ, List.take_succ_cons, List.take_zero, List.drop_succ_cons, List.drop_zero, List.reverse_cons, List.reverse_nil, List.nil_append, List.cons_append, List.getD_cons_succ, List.getD_cons_zero, List.getD_nil, List.length_cons, List.length_nil, List.map_cons, List.map_nil, List.sum_cons, List.sum_nil, Nat.reduceAdd, Nat.reduceLeDiff, Value.category, Option.toList, true_or, or_true, z_ua, ↓reduceIte, Nat.reduceEqDiff, eq_self, not_true_eq_false, not_false_eq_true, false_implies, true_implies, Classical.not_not, Nat.le_refl, Nat.zero_le, sK38 hS, a1, a2, a3, e1, v1, eJ, lN_shr45 (show r * 2 ^ 45 + v < 2 ^ 63 by omega), d1, lN_mask, d2, a11, lg_cmp_eq]
    try dsimp only
    refine ⟨fun h => ?_, fun h => ?_⟩
    · refine zW_ok hj B82_58 58 _ _ _ _ _ b82_58 ?_
      simp only [B82_58, zW, z_wp1, z_ld, z_f0, z_f1, z_f2, z_f3, List.getElem?_cons_zero, List.getElem?_cons_succ, true_and, and_true, Int32.reduceOfInt, z_i10, z_i01, Int32.reduceLT, Int32.reduceLE, Int32.reduceAdd, Int32.reduceSub, z_set, z_set2, z_kil, List.set_cons_zero, List.set_cons_succ, List.take_succ_cons, List.take_zero, List.drop_succ_cons, List.drop_zero, List.reverse_cons, List.reverse_nil, List.nil_append, List.cons_append, List.getD_cons_succ, List.getD_cons_zero, List.getD_nil, List.length_cons, List.length_nil, List.map_cons, List.map_nil, List.sum_cons, List.sum_nil, Nat.reduceAdd, Nat.reduceLeDiff, Value.category, Option.toList, true_or, or_true, z_ua, ↓reduceIte, Nat.reduceEqDiff, eq_self, not_true_eq_false, not_false_eq_true, false_implies, true_implies, Classical.not_not, Nat.le_refl, Nat.zero_le, sK38 hS]
      try dsimp only
      refine z_callD (c81 (I := I) (J := J) hS a7 a8 a9 a10 (nI t)) (by omega) (by omega) (by omega) (Nat.le_of_ble_eq_true rfl) ?_
      try simp only [zW, z_wp1, z_ld, z_f0, z_f1, z_f2, z_f3, List.getElem?_cons_zero, List.getElem?_cons_succ, true_and, and_true, Int32.reduceOfInt, z_i10, z_i01, Int32.reduceLT, Int32.reduceLE, Int32.reduceAdd, Int32.reduceSub, z_set, z_set2, z_kil, List.set_cons_zero, List.set_cons_succ, List.take_succ_cons, List.take_zero, List.drop_succ_cons, List.drop_zero, List.reverse_cons, List.reverse_nil, List.nil_append, List.cons_append, List.getD_cons_succ, List.getD_cons_zero, List.getD_nil, List.length_cons, List.length_nil, List.map_cons, List.map_nil, List.sum_cons, List.sum_nil, Nat.reduceAdd, Nat.reduceLeDiff, Value.category, Option.toList, true_or, or_true, z_ua, ↓reduceIte, Nat.reduceEqDiff, eq_self, not_true_eq_false, not_false_eq_true, false_implies, true_implies, Classical.not_not, Nat.le_refl, Nat.zero_le, sK38 hS]
      try dsimp only
      have op : ∀ p, zb (m_may (I 40) (nI (2 ^ cn - 1)) (nI t) bc) p = true ↔ s_op cn (s_B bc (I 40)) (xU cn t) p := fun p => m_may_op (xBsub a8 a13) (fun f hf => by rw [z_zs_b a8]; simp; omega)
      refine (c82_loop (k := k) hS hj hl hd hm hs hX ht hk (fun t' h1 h2 J' h3 h4 => ih t' h1 h2 J' h3 h4) hQ 16 0 0 _ J none (by omega) (fun _ _ => rfl) hmm (fun p hp => ⟨s_bits_ms a8 hp, (op p).mp hp⟩) (fun p q hp hq hmt hu => (op q).mpr ?_) ?_ ?_).weak (by simp only [z_le, nI_0, lN_0]; simp)
      · obtain ⟨q1, q2⟩ := (op p).mp hp
        exact ⟨by rw [xU_lt a8 hq]; exact hu, fun b hb hbd => by rw [← hmt b hb]; exact q2 b hb hbd⟩
      · have := s_rk_le (b := fun _ => true) (b' := zb (m_may (I 40) (nI (2 ^ cn - 1)) (nI t) bc)) (n := cn) (fun _ _ _ => rfl)
        have h3 : ∀ n, s_rk (fun _ => true) n = n := fun n => by
          induction n with
          | zero => rfl
          | succ n ih => rw [s_rk, ih]; rfl
        rw [h3] at this
        omega
      · rw [Nat.zero_add, xV, mV, s_V_g (show s_n (xU cn t) cn ≠ 0 by omega)]
        refine s_sum_congr (fun p hp => ?_)
        by_cases q : s_op cn (s_B bc (I 40)) (xU cn t) p
        · rw [if_pos ((op p).mpr q)]
        · rw [if_neg (fun z => q ((op p).mp z)), s_g_n q]
    · have : r = R := by
        have q := congrArg Int64.toInt h
        rw [lN_t (show r < 2 ^ 63 by omega), lN_t (show R < 2 ^ 63 by omega)] at q
        omega
      refine hQ _ _ ⟨by rw [hrv this ht], J, rfl, fun _ _ => rfl, hmm⟩
end SER7
