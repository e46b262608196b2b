/-! Rows of finds of the class: words that hold a count, the least bit, how many bits -/
theorem lN_and' (a b : Nat) : lN a &&& lN b = lN (a &&& b) := Int64.toBitVec_inj.mp (by
  show BitVec.ofNat 64 a &&& BitVec.ofNat 64 b = BitVec.ofNat 64 (a &&& b)
  rw [BitVec.ofNat_and])
theorem lN_or' (a b : Nat) : lN a ||| lN b = lN (a ||| b) := Int64.toBitVec_inj.mp (by
  show BitVec.ofNat 64 a ||| BitVec.ofNat 64 b = BitVec.ofNat 64 (a ||| b)
  rw [BitVec.ofNat_or])
theorem lN_mask (x : Nat) : lN x &&& Int64.ofInt 35184372088831 = lN (x % 2 ^ 45) := by
  rw [show Int64.ofInt 35184372088831 = lN (2 ^ 45 - 1) by decide, lN_and', Nat.and_two_pow_sub_one_eq_mod]
theorem lN_shr45 {x : Nat} (h : x < 2 ^ 63) : ((lN x).toUInt64 >>> ((45 : Int32).toInt64.toUInt64 &&& Int64.toUInt64 63)).toInt64 = lN (x / 2 ^ 45) := by
  refine Int64.toBitVec_inj.mp (BitVec.eq_of_toNat_eq ?_)
  show ((lN x).toUInt64.toBitVec >>> (BitVec.ofNat 64 45 % 64#64)).toNat = (BitVec.ofNat 64 (x / 2 ^ 45)).toNat
  have e1 : ((lN x).toUInt64).toBitVec.toNat = x := by
    show (BitVec.ofNat 64 x).toNat = x
    rw [BitVec.toNat_ofNat, Nat.mod_eq_of_lt (by omega)]
  rw [show (BitVec.ofNat 64 45 % 64#64) = 45#64 by decide, BitVec.ushiftRight_eq', BitVec.toNat_ushiftRight, e1, Nat.shiftRight_eq_div_pow, BitVec.toNat_ofNat]
  have : x / 2 ^ 45 ≤ x := Nat.div_le_self _ _
  exact (Nat.mod_eq_of_lt (show x / 2 ^ 45 < 2 ^ 64 by omega)).symm
theorem lN_shl45 {R : Nat} (h : R < 2 ^ 18) : lN R <<< ((45 : Int32).toInt64 &&& 63) = lN (R * 2 ^ 45) := by
  have e : ((45 : Int32).toInt64 &&& 63) = (45 : Int64) := by decide
  rw [e]
  refine Int64.toBitVec_inj.mp (BitVec.eq_of_toNat_eq ?_)
  rw [Int64.toBitVec_shiftLeft]
  show ((BitVec.ofNat 64 R) <<< ((45#64).smod 64)).toNat = (BitVec.ofNat 64 (R * 2 ^ 45)).toNat
  rw [show (45#64).smod 64 = 45#64 by decide, BitVec.shiftLeft_eq', BitVec.toNat_shiftLeft, BitVec.toNat_ofNat, BitVec.toNat_ofNat, Nat.mod_eq_of_lt (show R < 2 ^ 64 by omega), Nat.shiftLeft_eq, show 45 % 2 ^ 64 = 45 from Nat.mod_eq_of_lt (by omega), BitVec.toNat_ofNat]
theorem lN_pk {R v : Nat} (hv : v < 2 ^ 45) : lN (R * 2 ^ 45) ||| lN v = lN (R * 2 ^ 45 + v) := by
  rw [lN_or', Nat.mul_comm, Nat.two_pow_add_eq_or_of_lt hv]
theorem zb_neg (o : Int32) (i : Nat) : zb (-o) i = (decide (i < 32) && (zb o i ^^ decide (∃ j, j < i ∧ zb o j = true))) := by
  unfold zb
  rw [Int32.toBitVec_neg, BitVec.getLsbD_neg]
  rcases Nat.lt_or_ge i 32 with q | q
  · simp [q]
  · simp [BitVec.getLsbD_of_ge _ _ q, show ¬ i < 32 by omega]
theorem z_least {b : Nat → Bool} : ∀ {i : Nat}, b i = true → ∃ p, p ≤ i ∧ b p = true ∧ ∀ j, j < p → b j = false := by
  intro i
  induction i using Nat.strongRecOn with
  | ind i ih =>
    intro h
    by_cases q : ∃ j, j < i ∧ b j = true
    · obtain ⟨j, hj, hb⟩ := q
      obtain ⟨p, h1, h2⟩ := ih j hj hb
      exact ⟨p, by omega, h2⟩
    · exact ⟨i, Nat.le_refl _, h, fun j hj => by
        cases e : b j with
        | false => rfl
        | true => exact absurd ⟨j, hj, e⟩ q⟩
theorem z_low0 {o : Int32} {i : Nat} (h : zb o i = true) : ∃ p, p ≤ i ∧ zb o p = true ∧ ∀ k, zb (o &&& -o) k = decide (k = p) := by
  obtain ⟨p, h1, h2, h3⟩ := z_least (b := zb o) h
  refine ⟨p, h1, h2, fun k => ?_⟩
  have ha : zb (o &&& -o) k = (zb o k && zb (-o) k) := by simp [zb]
  rw [ha, zb_neg]
  by_cases e : k = p
  · subst e
    have hn : ¬ ∃ j, j < k ∧ zb o j = true := fun ⟨j, hj, q⟩ => by rw [h3 j hj] at q; cases q
    have : k < 32 := by
      rcases Nat.lt_or_ge k 32 with q | q
      · exact q
      · unfold zb at h2; rw [BitVec.getLsbD_of_ge _ _ q] at h2; cases h2
    simp [h2, hn, this]
  · simp only [e, decide_false]
    rcases Nat.lt_or_ge k p with q | q
    · rw [h3 k q]; rfl
    · have : ∃ j, j < k ∧ zb o j = true := ⟨p, by omega, h2⟩
      cases e2 : zb o k with
      | false => rfl
      | true => simp [this]
def p_e (k : Nat) : Nat :=
  let a := Nat.sub k (Nat.land (Nat.div k 2) 1431655765)
  let b := Nat.add (Nat.land a 858993459) (Nat.land (Nat.div a 4) 858993459)
  let c := Nat.land (Nat.add b (Nat.div b 16)) 252645135
  let d := Nat.add c (Nat.div c 256)
  Nat.land (Nat.add d (Nat.div d 65536)) 63
def p_c : Nat → Nat → Nat
  | 0, _ => 0
  | n + 1, k => Nat.add (Nat.mod k 2) (p_c n (Nat.div k 2))
def p_k (a : Nat) : Nat → Bool
  | 0 => true
  | b + 1 => and (Nat.beq (p_e (Nat.add (Nat.mul a 256) b)) (p_c 16 (Nat.add (Nat.mul a 256) b))) (p_k a b)
def p_kk : Nat → Bool
  | 0 => true
  | a + 1 => and (p_k a 256) (p_kk a)
set_option maxRecDepth 100000 in
theorem p_kk_ok : p_kk 256 = true := by decide +kernel
theorem p_k_ok {a b : Nat} : ∀ {m : Nat}, p_k a m = true → b < m → p_e (a * 256 + b) = p_c 16 (a * 256 + b)
  | 0, _, h => by omega
  | m + 1, h, hb => by
    rw [p_k, Bool.and_eq_true] at h
    by_cases e : b = m
    · subst e; exact Nat.eq_of_beq_eq_true h.1
    · exact p_k_ok h.2 (by omega)
theorem p_kk_at {a : Nat} : ∀ {m : Nat}, p_kk m = true → a < m → p_k a 256 = true
  | 0, _, h => by omega
  | m + 1, h, ha => by
    rw [p_kk, Bool.and_eq_true] at h
    by_cases e : a = m
    · subst e; exact h.1
    · exact p_kk_at h.2 (by omega)
theorem p_ok {k : Nat} (h : k < 65536) : p_e k = p_c 16 k := by
  have := p_k_ok (b := k % 256) (p_kk_at p_kk_ok (show k / 256 < 256 by omega)) (by omega)
  rw [show k / 256 * 256 + k % 256 = k by omega] at this
  exact this
theorem p_c_rk : ∀ (n k : Nat), p_c n k = s_rk (fun i => k.testBit i) n := by
  have sh : ∀ (b : Nat → Bool) (n : Nat), s_rk b (n + 1) = (if b 0 = true then 1 else 0) + s_rk (fun i => b (i + 1)) n := by
    intro b n
    induction n with
    | zero => simp [s_rk]
    | succ n ih => rw [s_rk, ih, s_rk]; omega
  intro n
  induction n with
  | zero => intro k; rfl
  | succ n ih =>
    intro k
    rw [p_c, ih, sh]
    have e1 : (fun i => k.testBit (i + 1)) = fun i => (Nat.div k 2).testBit i := by
      funext i
      rw [Nat.testBit_succ]
      rfl
    rw [e1, Nat.testBit_zero]
    show k % 2 + _ = _
    rcases Nat.mod_two_eq_zero_or_one k with e | e <;> simp [e]
