/-! Keys of the class: words that hold a plan, and how often a set can be split -/
theorem zb_shln (s : Int32) {k : Nat} (hk : k < 32) (j : Nat) : zb (s <<< (nI k &&& 31)) j = (decide (j < 32) && (decide (k ≤ j) && zb s (j - k))) := by
  rw [zb, Int32.toBitVec_shiftLeft, BitVec.shiftLeft_eq', nI_smod hk, BitVec.getLsbD_shiftLeft]
  by_cases h0 : j < k
  · have : ¬ k ≤ j := by omega
    simp [h0, this]
  · have : k ≤ j := by omega
    simp [h0, this, zb]
theorem zb_shrn (s : Int32) {k : Nat} (hk : k < 32) {j : Nat} (hj : j < 32) : zb (s >>> (nI k &&& 31)) j = if k + j < 32 then zb s (k + j) else s.toBitVec.msb := by
  rw [zb, Int32.toBitVec_shiftRight, BitVec.sshiftRight', nI_smod hk, BitVec.getLsbD_sshiftRight]
  simp only [show ¬ 32 ≤ j by omega, decide_false, Bool.not_false, Bool.true_and]
  rfl
theorem nI_shl {a k : Nat} (hk : k < 32) (h : a * 2 ^ k < 2 ^ 31) : nI a <<< (nI k &&& 31) = nI (a * 2 ^ k) := by
  have ha : a < 2 ^ 31 := Nat.lt_of_le_of_lt (Nat.le_mul_of_pos_right a (Nat.two_pow_pos k)) h
  refine zb_ext (fun j hj => ?_)
  rw [zb_shln _ hk, zb_nI (by omega), zb_nI (by omega), Nat.mul_comm, Nat.testBit_two_pow_mul]
  simp [hj]
theorem zb_top {m : Nat} (h : m < 2 ^ 31) : (nI m).toBitVec.msb = false := by
  rw [BitVec.msb_eq_getLsbD_last]
  have := zb_nI (k := m) (by omega) 31
  rw [Nat.testBit_lt_two_pow (by omega)] at this
  exact this
theorem nI_shr {m k : Nat} (hk : k < 32) (h : m < 2 ^ 31) : nI m >>> (nI k &&& 31) = nI (m / 2 ^ k) := by
  have hm : m / 2 ^ k ≤ m := Nat.div_le_self _ _
  refine zb_ext (fun j hj => ?_)
  rw [zb_shrn _ hk hj, zb_top h, zb_nI (by omega), zb_nI (by omega), Nat.testBit_div_two_pow]
  by_cases hc : k + j < 32
  · rw [if_pos hc, Nat.add_comm]
  · rw [if_neg hc, Nat.testBit_lt_two_pow (Nat.lt_of_lt_of_le h (Nat.pow_le_pow_right (by omega) (by omega)))]
theorem nI_ushr {m : Nat} (h : m < 2 ^ 31) : ((nI m).toUInt32 >>> (Int32.toUInt32 12 &&& Int32.toUInt32 31)).toInt32 = nI (m / 4096) := by
  have hm : m / 4096 ≤ m := Nat.div_le_self _ _
  refine Int32.toBitVec_inj.mp ?_
  show ((nI m).toUInt32 >>> (12 : UInt32)).toBitVec = (nI (m / 4096)).toBitVec
  rw [UInt32.toBitVec_shiftRight]
  refine BitVec.eq_of_toNat_eq ?_
  have e1 : ((nI m).toUInt32).toBitVec.toNat = m := by
    show (BitVec.ofNat 32 m).toNat = m
    rw [BitVec.toNat_ofNat, Nat.mod_eq_of_lt (by omega)]
  have e2 : (nI (m / 4096)).toBitVec.toNat = m / 4096 := by
    show (BitVec.ofNat 32 (m / 4096)).toNat = m / 4096
    rw [BitVec.toNat_ofNat, Nat.mod_eq_of_lt (by omega)]
  rw [e2]
  show ((nI m).toUInt32.toBitVec >>> ((12 : UInt32).toBitVec % 32#32)).toNat = m / 4096
  rw [show ((12 : UInt32).toBitVec % 32#32) = 12#32 by decide, BitVec.ushiftRight_eq', BitVec.toNat_ushiftRight, e1, Nat.shiftRight_eq_div_pow]
  rfl
def k_pk (R w ch : Nat) : Nat := R * 4096 + w * 16 + ch
theorem k_pk_eq {R w ch : Nat} (hR : R < 2 ^ 18) (hw : w < 256) (hc : ch < 16) : nI R <<< (12 &&& 31) ||| nI w <<< (4 &&& 31) ||| nI ch = nI (k_pk R w ch) := by
  have e1 : nI R <<< ((12 : Int32) &&& 31) = nI (R * 2 ^ 12) := nI_shl (k := 12) (by omega) (by omega)
  have e2 : nI w <<< ((4 : Int32) &&& 31) = nI (w * 2 ^ 4) := nI_shl (k := 4) (by omega) (by omega)
  rw [e1, e2, nI_or (by omega) (by omega)]
  have o1 : R * 2 ^ 12 ||| w * 2 ^ 4 = R * 2 ^ 12 + w * 2 ^ 4 := by
    rw [Nat.mul_comm R, Nat.two_pow_add_eq_or_of_lt (show w * 2 ^ 4 < 2 ^ 12 by omega)]
  rw [o1, nI_or (by omega) (by omega)]
  have o2 : (R * 2 ^ 12 + w * 2 ^ 4) ||| ch = R * 2 ^ 12 + w * 2 ^ 4 + ch := by
    rw [show R * 2 ^ 12 + w * 2 ^ 4 = 2 ^ 4 * (R * 2 ^ 8 + w) by omega, Nat.two_pow_add_eq_or_of_lt (show ch < 2 ^ 4 by omega)]
  rw [o2]
  rfl
theorem k_pk_r {R w ch : Nat} (hR : R < 2 ^ 18) (hw : w < 256) (hc : ch < 16) : ((nI (k_pk R w ch)).toUInt32 >>> (Int32.toUInt32 12 &&& Int32.toUInt32 31)).toInt32 = nI R := by
  rw [nI_ushr (by unfold k_pk; omega)]
  congr 1
  unfold k_pk
  omega
theorem k_pk_w {R w ch : Nat} (hR : R < 2 ^ 18) (hw : w < 256) (hc : ch < 16) : (nI (k_pk R w ch) &&& 4095) >>> (4 &&& 31) = nI w := by
  have e : k_pk R w ch < 2 ^ 31 := by unfold k_pk; omega
  rw [show (4095 : Int32) = nI (2 ^ 12 - 1) by decide, nI_and e (by omega), Nat.and_two_pow_sub_one_eq_mod]
  have e2 : nI (k_pk R w ch % 2 ^ 12) >>> ((4 : Int32) &&& 31) = nI (k_pk R w ch % 2 ^ 12 / 2 ^ 4) := nI_shr (k := 4) (by omega) (by omega)
  rw [e2]
  congr 1
  unfold k_pk
  omega
theorem k_pk_c {R w ch : Nat} (hR : R < 2 ^ 18) (hw : w < 256) (hc : ch < 16) : nI (k_pk R w ch) &&& 15 = nI ch := by
  have e : k_pk R w ch < 2 ^ 31 := by unfold k_pk; omega
  rw [show (15 : Int32) = nI (2 ^ 4 - 1) by decide, nI_and e (by omega), Nat.and_two_pow_sub_one_eq_mod]
  congr 1
  unfold k_pk
  omega
/-- how many marks split a set -/
def k_sp (ys : Nat → Int32) (s : Int32) : Nat → Nat
  | 0 => 0
  | i + 1 => k_sp ys s i + (if s &&& ys i = 0 ∨ s &&& (ys i ^^^ -1) = 0 then 0 else 1)
theorem k_sp_N (ys : Nat → Int32) (s : Int32) : ∀ N, k_sp ys s N ≤ N
  | 0 => Nat.le_refl _
  | i + 1 => by
    have := k_sp_N ys s i
    simp only [k_sp]
    split <;> omega
theorem k_sub0 {s t y : Int32} (h : ∀ j, zb t j = true → zb s j = true) (h0 : s &&& y = 0) : t &&& y = 0 := zb_ext (fun j _ => by
  rw [zb_and, zb_0]
  have := congrArg (fun z => zb z j) h0
  simp only [zb_and, zb_0] at this
  cases ht : zb t j with
  | false => rfl
  | true => rw [h j ht] at this; simpa using this)
theorem k_sp_le {ys : Nat → Int32} {s t : Int32} (h : ∀ j, zb t j = true → zb s j = true) : ∀ N, k_sp ys t N ≤ k_sp ys s N
  | 0 => Nat.le_refl _
  | i + 1 => by
    have ih := k_sp_le (ys := ys) h i
    simp only [k_sp]
    by_cases hc : s &&& ys i = 0 ∨ s &&& (ys i ^^^ -1) = 0
    · rw [if_pos hc, if_pos (hc.imp (k_sub0 h) (k_sub0 h))]; omega
    · rw [if_neg hc]
      split <;> omega
theorem k_sp_lt {ys : Nat → Int32} {s t : Int32} (h : ∀ j, zb t j = true → zb s j = true) {i : Nat} (h1 : ¬ s &&& ys i = 0) (h2 : ¬ s &&& (ys i ^^^ -1) = 0) (h3 : t &&& ys i = 0 ∨ t &&& (ys i ^^^ -1) = 0) : ∀ {N : Nat}, i < N → k_sp ys t N < k_sp ys s N
  | 0, hi => by omega
  | N + 1, hi => by
    simp only [k_sp]
    by_cases e : i = N
    · subst e
      have := k_sp_le (ys := ys) h i
      rw [if_pos h3, if_neg (fun q => q.elim h1 h2)]
      omega
    · have ih := k_sp_lt h h1 h2 h3 (N := N) (by omega)
      by_cases hc : s &&& ys N = 0 ∨ s &&& (ys N ^^^ -1) = 0
      · rw [if_pos hc, if_pos (hc.imp (k_sub0 h) (k_sub0 h))]; omega
      · rw [if_neg hc]
        split <;> omega
/-- both parts are split less often -/
theorem k_part_sp {ys mb : Nat → Int32} {s i N a b : Nat} (hok : k_ok ys mb (nI s) i) (hi : i < N) (ba : ∀ j, zb (nI a) j = (zb (nI s) j && zb (ys i) j)) (bb : ∀ j, zb (nI b) j = (zb (nI s) j && !zb (ys i) j)) : k_sp ys (nI a) N < k_sp ys (nI s) N ∧ k_sp ys (nI b) N < k_sp ys (nI s) N := by
  obtain ⟨h1, h2, h3⟩ := hok
  refine ⟨k_sp_lt (i := i) (fun j hj => by rw [ba] at hj; simp at hj; exact hj.1) h2 h3 (Or.inr (zb_ext (fun j hj => ?_))) hi, k_sp_lt (i := i) (fun j hj => by rw [bb] at hj; simp at hj; exact hj.1) h2 h3 (Or.inl (zb_ext (fun j hj => ?_))) hi⟩
  · rw [z_xn, zb_and, zb_not, ba, zb_0]
    cases zb (ys i) j <;> simp
  · rw [zb_and, bb, zb_0]
    cases zb (ys i) j <;> simp
/-- what a key costs at the worst -/
theorem k_v_bd {ys mb co : Nat → Int32} {N : Nat} (hco : ∀ i, i < N → ∃ c, 1 ≤ c ∧ c ≤ 9 ∧ co i = nI c) (hN : N ≤ 12) : ∀ s, s < 2 ^ 16 → ∃ w, w ≤ 9 * k_sp ys (nI s) N ∧ (k_v ys mb co N s).1 = nI w := by
  intro s
  induction s using Nat.strongRecOn with
  | ind s ih =>
    intro hs
    have hpos : ∀ M, M ≤ N → (k_st ys mb co (k_v ys mb co N) (nI s) M).1 = 0 ∨ ∃ w, w ≤ 9 * k_sp ys (nI s) N ∧ (k_st ys mb co (k_v ys mb co N) (nI s) M).1 = nI w := by
      intro M
      induction M with
      | zero => intro _; exact Or.inl rfl
      | succ i ihM =>
        intro hM
        rw [k_st]
        by_cases h : k_ok ys mb (nI s) i ∧ ((k_st ys mb co (k_v ys mb co N) (nI s) i).2.1 = -1 ∨ k_v1 ys co (k_v ys mb co N) (nI s) i < (k_st ys mb co (k_v ys mb co N) (nI s) i).1)
        · rw [if_pos h]
          obtain ⟨a, b, ea, eb, ha, hb, ha0, hb0, ba, bb⟩ := k_part hs h.1
          obtain ⟨s1, s2⟩ := k_part_sp (N := N) h.1 (by omega) ba bb
          obtain ⟨wa, la, xa⟩ := ih a ha (by omega)
          obtain ⟨wb, lb, xb⟩ := ih b hb (by omega)
          obtain ⟨c, c1, c2, xc⟩ := hco i (by omega)
          refine Or.inr ?_
          simp only [k_v1]
          rw [ea, eb, nI_clamp (by omega), nI_clamp (by omega), xa, xb, xc]
          by_cases hl : nI wb < nI wa
          · rw [if_pos hl]
            exact ⟨c + wa, by omega, nI_add _ _⟩
          · rw [if_neg hl]
            exact ⟨c + wb, by omega, nI_add _ _⟩
        · rw [if_neg h]
          exact ihM (by omega)
    rw [k_v_eq ys mb co N hs]
    rcases hpos N (Nat.le_refl _) with h | h
    · exact ⟨0, Nat.zero_le _, by rw [h, nI_0]⟩
    · exact h
