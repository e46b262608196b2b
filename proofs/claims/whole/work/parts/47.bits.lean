/-! sets as words: bits -/
def zb (s : Int32) (i : Nat) : Bool := s.toBitVec.getLsbD i
theorem zb_ge {s : Int32} {i : Nat} (h : 32 ≤ i) : zb s i = false := BitVec.getLsbD_of_ge _ _ h
theorem zb_ext {a b : Int32} (h : ∀ i, i < 32 → zb a i = zb b i) : a = b := Int32.toBitVec_inj.mp (BitVec.eq_of_getLsbD_eq (fun i hi => h i hi))
theorem zb_and (a b : Int32) (i : Nat) : zb (a &&& b) i = (zb a i && zb b i) := by simp [zb]
theorem zb_or (a b : Int32) (i : Nat) : zb (a ||| b) i = (zb a i || zb b i) := by simp [zb]
theorem zb_xor (a b : Int32) (i : Nat) : zb (a ^^^ b) i = (zb a i ^^ zb b i) := by simp [zb]
theorem zb_not (a : Int32) (i : Nat) : zb (~~~ a) i = (decide (i < 32) && !zb a i) := by simp [zb]
theorem zb_0 (i : Nat) : zb 0 i = false := by simp [zb]
theorem zb_nI {k : Nat} (h : k < 2 ^ 32) (i : Nat) : zb (nI k) i = k.testBit i := by
  have e : (nI k).toBitVec = BitVec.ofNat 32 k := rfl
  rw [zb, e, BitVec.getLsbD_ofNat]
  by_cases hi : i < 32
  · simp [hi]
  · have : k.testBit i = false := Nat.testBit_lt_two_pow (Nat.lt_of_lt_of_le h (Nat.pow_le_pow_right (by omega) (by omega)))
    simp [this]
theorem zb_full {N : Nat} (h : N ≤ 16) (i : Nat) : zb (nI (2 ^ N) - 1) i = decide (i < N) := by
  have e : nI (2 ^ N) - 1 = nI (2 ^ N - 1) := by
    have : 0 < 2 ^ N := Nat.two_pow_pos N
    obtain ⟨k, hk⟩ : ∃ k, 2 ^ N = k + 1 := ⟨2 ^ N - 1, by omega⟩
    rw [hk]
    exact nI_pred k
  have h2 : 2 ^ N ≤ 2 ^ 16 := Nat.pow_le_pow_right (by omega) h
  rw [e, zb_nI (by omega), Nat.testBit_two_pow_sub_one]
theorem zb_sh1 {i : Nat} (h : i < 32) (k : Nat) : zb (1 <<< (nI i &&& 31)) k = decide (k = i) := by
  by_cases hk : k < 32
  · have := co_dec (N := 32) (P := fun i => ∀ k : Fin 32, zb (1 <<< (nI i &&& 31)) k.1 = decide (k.1 = i)) (by decide +kernel) h ⟨k, hk⟩
    exact this
  · rw [zb_ge (by omega)]
    simp
    omega
theorem nI_and31 {i : Nat} (h : i < 32) : (nI i &&& 31).toBitVec = BitVec.ofNat 32 i := co_dec (P := fun i => (nI i &&& 31).toBitVec = BitVec.ofNat 32 i) (by decide +kernel) h
theorem nI_smod {i : Nat} (h : i < 32) : ((nI i &&& 31).toBitVec.smod 32).toNat = i := co_dec (P := fun i => ((nI i &&& 31).toBitVec.smod 32).toNat = i) (by decide +kernel) h
/-- a mark asked of a set -/
theorem zb_get (s : Int32) {i : Nat} (h : i < 32) : s >>> (nI i &&& 31) &&& 1 = if zb s i then 1 else 0 := by
  refine zb_ext (fun k hk => ?_)
  rw [zb_and]
  have e1 : zb (s >>> (nI i &&& 31)) k = if i + k < 32 then zb s (i + k) else s.toBitVec.msb := by
    rw [zb, Int32.toBitVec_shiftRight, BitVec.sshiftRight', nI_smod h, BitVec.getLsbD_sshiftRight]
    simp only [show ¬ 32 ≤ k by omega, decide_false, Bool.not_false, Bool.true_and]
    rfl
  have e2 : zb 1 k = decide (k = 0) := by
    have := zb_sh1 (i := 0) (by omega) k
    exact this
  rw [e2]
  by_cases hk0 : k = 0
  · subst hk0
    rw [e1, if_pos (by omega)]
    by_cases hb : zb s (i + 0) = true
    · rw [hb]
      simp only [Nat.add_zero] at hb
      rw [if_pos hb]
      decide
    · rw [Bool.not_eq_true] at hb
      rw [hb]
      simp only [Nat.add_zero] at hb
      rw [if_neg (by simp [hb])]
      decide
  · simp only [hk0, decide_false, Bool.and_false]
    by_cases hb : zb s i = true
    · rw [if_pos hb, e2]
      simp [hk0]
    · rw [if_neg hb, zb_0]
theorem zb_get1 {s : Int32} {i : Nat} (h : i < 32) : s >>> (nI i &&& 31) &&& 1 = 1 ↔ zb s i = true := by
  rw [zb_get s h]
  by_cases hb : zb s i = true
  · simp [hb]
  · simp [hb]
theorem zb_get0 {s : Int32} {i : Nat} (h : i < 32) : s >>> (nI i &&& 31) &&& 1 = 0 ↔ zb s i = false := by
  rw [zb_get s h]
  by_cases hb : zb s i = true
  · simp [hb]
  · simp [hb]
theorem zb_tst {s : Int32} {i : Nat} (h : i < 32) : s &&& 1 <<< (nI i &&& 31) = 0 ↔ zb s i = false := by
  constructor
  · intro e
    have := congrArg (fun z => zb z i) e
    simp only [zb_and, zb_sh1 h, zb_0] at this
    simpa using this
  · intro e
    refine zb_ext (fun k hk => ?_)
    rw [zb_and, zb_sh1 h, zb_0]
    by_cases hk : k = i
    · subst hk
      simp [e]
    · simp [hk]
/-- one set in another -/
theorem zb_sub {s r : Int32} : r &&& s = s ↔ ∀ i, zb s i = true → zb r i = true := by
  constructor
  · intro e i hi
    have := congrArg (fun z => zb z i) e
    simp only [zb_and, hi] at this
    simpa using this
  · intro e
    refine zb_ext (fun k hk => ?_)
    rw [zb_and]
    by_cases hb : zb s k = true
    · simp [hb, e k hb]
    · simp [hb]
theorem zb_sub' {s r : Int32} : s &&& r = s ↔ ∀ i, zb s i = true → zb r i = true := by
  rw [Int32.and_comm]
  exact zb_sub
theorem zb_dif {a b : Int32} : a &&& ~~~ b = 0 ↔ ∀ i, zb a i = true → zb b i = true := by
  constructor
  · intro e i hi
    have hi32 : i < 32 := by
      rcases Nat.lt_or_ge i 32 with h | h
      · exact h
      · rw [zb_ge h] at hi; cases hi
    have := congrArg (fun z => zb z i) e
    simp only [zb_and, zb_not, hi, zb_0, hi32] at this
    simpa using this
  · intro e
    refine zb_ext (fun k hk => ?_)
    rw [zb_and, zb_not, zb_0]
    by_cases hb : zb a k = true
    · simp [e k hb]
    · simp [hb]
theorem zb_ne0 {a : Int32} : ¬ a = 0 ↔ ∃ i, i < 32 ∧ zb a i = true := by
  constructor
  · intro h
    apply Classical.byContradiction
    intro h2
    refine h (zb_ext (fun i hi => ?_))
    rw [zb_0]
    cases hb : zb a i with
    | false => rfl
    | true => exact absurd ⟨i, hi, hb⟩ h2
  · rintro ⟨i, _, hi⟩ e
    rw [e, zb_0] at hi
    cases hi
/-- the sets of N -/
theorem zb_rng {s : Int32} {N : Nat} (hN : N ≤ 16) : (0 ≤ s ∧ s < nI (2 ^ N)) ↔ ∀ i, N ≤ i → zb s i = false := by
  have hp : 2 ^ N ≤ 2 ^ 16 := Nat.pow_le_pow_right (by omega) hN
  constructor
  · intro h i hi
    obtain ⟨k, hk, rfl⟩ := z_ix3 (n := 2 ^ N) (by omega) h
    rw [zb_nI (by omega)]
    exact Nat.testBit_lt_two_pow (Nat.lt_of_lt_of_le hk (Nat.pow_le_pow_right (by omega) hi))
  · intro h
    have h2 : s.toBitVec.toNat < 2 ^ N := by
      refine Nat.lt_pow_two_of_testBit _ (fun i hi => ?_)
      rw [BitVec.testBit_toNat]
      exact h i hi
    have e : s = nI s.toBitVec.toNat := Int32.toBitVec_inj.mp (BitVec.eq_of_toNat_eq (by
      show _ = (BitVec.ofNat 32 s.toBitVec.toNat).toNat
      simp))
    rw [e]
    exact ⟨nI_pos' (by omega), nI_lt h2 (by omega)⟩
theorem zb_toN {s : Int32} {N : Nat} (hN : N ≤ 16) (h : ∀ i, N ≤ i → zb s i = false) : ∃ k, k < 2 ^ N ∧ s = nI k := by
  have hp : 2 ^ N ≤ 2 ^ 16 := Nat.pow_le_pow_right (by omega) hN
  exact z_ix3 (n := 2 ^ N) (by omega) ((zb_rng hN).mpr h)
theorem zb_of {k N : Nat} (hN : N ≤ 16) (hk : k < 2 ^ N) {i : Nat} (hi : N ≤ i) : zb (nI k) i = false := by
  have hp : 2 ^ N ≤ 2 ^ 16 := Nat.pow_le_pow_right (by omega) hN
  rw [zb_nI (by omega)]
  exact Nat.testBit_lt_two_pow (Nat.lt_of_lt_of_le hk (Nat.pow_le_pow_right (by omega) hi))
/-- the class's way to ask whether a set is one of N -/
theorem zb_has {s : Int32} {N : Nat} (hN : N ≤ 16) : (0 ≤ s ∧ s >>> (nI N &&& 31) = 0) ↔ (0 ≤ s ∧ s < nI (2 ^ N)) := by
  have hp : 2 ^ N ≤ 2 ^ 16 := Nat.pow_le_pow_right (by omega) hN
  have key : ∀ i, i < 32 → zb (s >>> (nI N &&& 31)) i = if N + i < 32 then zb s (N + i) else s.toBitVec.msb := by
    intro i hi
    rw [zb, Int32.toBitVec_shiftRight, BitVec.sshiftRight', nI_smod (by omega), BitVec.getLsbD_sshiftRight]
    simp only [show ¬ 32 ≤ i by omega, decide_false, Bool.not_false, Bool.true_and]
    rfl
  constructor
  · rintro ⟨h0, h1⟩
    refine (zb_rng hN).mpr (fun i hi => ?_)
    rcases Nat.lt_or_ge i 32 with h | h
    · have := key (i - N) (by omega)
      rw [if_pos (by omega), show N + (i - N) = i by omega, h1, zb_0] at this
      exact this.symm
    · exact zb_ge h
  · intro h
    refine ⟨h.1, zb_ext (fun i hi => ?_)⟩
    have h2 := (zb_rng hN).mp h
    rw [key i hi, zb_0]
    by_cases hc : N + i < 32
    · rw [if_pos hc]; exact h2 _ (by omega)
    · rw [if_neg hc]
      have := h2 31 (by omega)
      rw [BitVec.msb_eq_getLsbD_last]
      exact this
