/-! Subsets in their order as numbers -/
theorem z_subN {x s : Nat} (h : x &&& s = x) : x / 2 &&& s / 2 = x / 2 ∧ x % 2 ≤ s % 2 := by
  refine ⟨by rw [← Nat.and_div_two, h], ?_⟩
  rcases Nat.mod_two_eq_zero_or_one x with e | e
  · omega
  · have := (Nat.and_mod_two_eq_one (a := x) (b := s)).mp (by rw [h]; exact e)
    omega
theorem z_sub_dn : ∀ (stand set q : Nat), stand &&& set = stand → q &&& set = q → q < stand → q ≤ (stand - 1) &&& set := by
  intro stand
  induction stand using Nat.strongRecOn with
  | ind stand ih =>
    intro set q hs hq hlt
    obtain ⟨s1, s2⟩ := z_subN hs
    obtain ⟨q1, q2⟩ := z_subN hq
    have e1 : ((stand - 1) &&& set) / 2 = (stand - 1) / 2 &&& set / 2 := Nat.and_div_two
    have e2 := Nat.and_mod_two_eq_one (a := stand - 1) (b := set)
    rcases Nat.mod_two_eq_zero_or_one stand with e | e
    · have e3 : (stand - 1) / 2 = stand / 2 - 1 := by omega
      have := ih (stand / 2) (by omega) (set / 2) (q / 2) s1 q1 (by omega)
      rw [← e3, ← e1] at this
      have h5 : (stand - 1) % 2 = 1 := by omega
      rcases Nat.mod_two_eq_zero_or_one set with e4 | e4
      · omega
      · have := e2.mpr ⟨h5, e4⟩
        omega
    · have e3 : (stand - 1) / 2 = stand / 2 := by omega
      rw [e3, s1] at e1
      omega
theorem z_subx : ∀ (c a : Nat), a &&& c = a → c - a = c ^^^ a ∧ a ≤ c := by
  intro c
  induction c using Nat.strongRecOn with
  | ind c ih =>
    intro a h
    obtain ⟨h1, h2⟩ := z_subN h
    have hle : a ≤ c := by rw [← h]; exact Nat.and_le_right
    refine ⟨?_, hle⟩
    by_cases h0 : c = 0
    · subst h0
      have : a = 0 := by omega
      subst this
      rfl
    obtain ⟨i1, i2⟩ := ih (c / 2) (by omega) (a / 2) h1
    have e1 : (c ^^^ a) / 2 = c / 2 ^^^ a / 2 := Nat.xor_div_two
    have e2 := Nat.xor_mod_two_eq_one (a := c) (b := a)
    rcases Nat.mod_two_eq_zero_or_one c with e | e <;> rcases Nat.mod_two_eq_zero_or_one a with e' | e'
    · have : ¬ (c ^^^ a) % 2 = 1 := fun q => by have := e2.mp q; omega
      omega
    · omega
    · have : (c ^^^ a) % 2 = 1 := e2.mpr (by omega)
      omega
    · have : ¬ (c ^^^ a) % 2 = 1 := fun q => by have := e2.mp q; omega
      omega
def z_nx (set part : Nat) : Nat := set ^^^ (set &&& (set - part - 1))
theorem z_nx_ok : ∀ (set part : Nat), part &&& set = part → part < set → part < z_nx set part ∧ z_nx set part &&& set = z_nx set part ∧ ∀ q, q &&& set = q → part < q → z_nx set part ≤ q := by
  intro set
  induction set using Nat.strongRecOn with
  | ind set ih =>
    intro part hp hlt
    obtain ⟨p1, p2⟩ := z_subN hp
    have e1 : z_nx set part / 2 = set / 2 ^^^ (set / 2 &&& (set - part - 1) / 2) := by rw [z_nx, Nat.xor_div_two, Nat.and_div_two]
    have e2 := Nat.xor_mod_two_eq_one (a := set) (b := set &&& (set - part - 1))
    have e3 := Nat.and_mod_two_eq_one (a := set) (b := set - part - 1)
    have hsubs : z_nx set part &&& set = z_nx set part := Nat.eq_of_testBit_eq (fun j => by
      simp only [z_nx, Nat.testBit_and, Nat.testBit_xor]
      cases set.testBit j <;> simp)
    by_cases hc : set % 2 = part % 2
    · have e4 : (set - part - 1) / 2 = set / 2 - part / 2 - 1 := by omega
      have e5 : (set - part - 1) % 2 = 1 := by omega
      obtain ⟨i1, i2, i3⟩ := ih (set / 2) (by omega) (part / 2) p1 (by omega)
      have e6 : z_nx set part / 2 = z_nx (set / 2) (part / 2) := by rw [e1, e4]; rfl
      have e7 : z_nx set part % 2 = 0 := by
        rcases Nat.mod_two_eq_zero_or_one (z_nx set part) with q | q
        · exact q
        · have q' := e2.mp q
          rcases Nat.mod_two_eq_zero_or_one set with e | e
          · have : ¬ (set &&& (set - part - 1)) % 2 = 1 := fun q => by have := e3.mp q; omega
            omega
          · have : (set &&& (set - part - 1)) % 2 = 1 := e3.mpr ⟨e, e5⟩
            omega
      refine ⟨by omega, hsubs, fun q hq hlt' => ?_⟩
      obtain ⟨q1, q2⟩ := z_subN hq
      by_cases he : part / 2 < q / 2
      · have := i3 (q / 2) q1 he
        omega
      · omega
    · have e4 : (set - part - 1) / 2 = set / 2 - part / 2 := by omega
      have e5 : (set - part - 1) % 2 = 0 := by omega
      have e6 : z_nx set part / 2 = part / 2 := by
        rw [e1, e4, (z_subx _ _ p1).1]
        refine Nat.eq_of_testBit_eq (fun j => ?_)
        have := congrArg (fun z => z.testBit j) p1
        simp only [Nat.testBit_and] at this
        simp only [Nat.testBit_and, Nat.testBit_xor]
        cases h1 : (set / 2).testBit j <;> cases h2 : (part / 2).testBit j <;> simp_all
      have e7 : z_nx set part % 2 = 1 := by
        refine e2.mpr ?_
        have : ¬ (set &&& (set - part - 1)) % 2 = 1 := fun q => by have := e3.mp q; omega
        omega
      exact ⟨by omega, hsubs, fun q hq hlt' => by omega⟩
theorem nI_and {a b : Nat} (ha : a < 2 ^ 31) (hb : b < 2 ^ 31) : nI a &&& nI b = nI (a &&& b) := zb_ext (fun i _ => by
  have : a &&& b ≤ a := Nat.and_le_left
  rw [zb_and, zb_nI (by omega), zb_nI (by omega), zb_nI (by omega), Nat.testBit_and])
theorem nI_or {a b : Nat} (ha : a < 2 ^ 30) (hb : b < 2 ^ 30) : nI a ||| nI b = nI (a ||| b) := zb_ext (fun i _ => by
  have : a ||| b < 2 ^ 30 := Nat.or_lt_two_pow ha hb
  rw [zb_or, zb_nI (by omega), zb_nI (by omega), zb_nI (by omega), Nat.testBit_or])
theorem nI_sb {s r : Nat} (hs : s < 2 ^ 31) (hr : r < 2 ^ 31) : nI s &&& nI r = nI s ↔ s &&& r = s := by
  have : s &&& r ≤ s := Nat.and_le_left
  rw [nI_and hs hr, nI_eq (by omega) hs]
theorem nI_subneg {a b : Nat} (h : a < b) : nI a - nI b = ~~~ (nI (b - a - 1)) := by
  have e : nI b = nI a + (nI (b - a - 1) + 1) := by rw [nI_1, nI_add]; congr 1; omega
  rw [e, Int32.not_eq_neg_sub]
  grind
theorem nI_nx {set part : Nat} (hs : set < 2 ^ 16) (h : part < set) : (nI part - nI set) &&& nI set = nI (z_nx set part) := by
  rw [nI_subneg h]
  have hle : z_nx set part ≤ set := by
    refine z_sle (fun j hj => ?_)
    simp only [z_nx, Nat.testBit_and, Nat.testBit_xor] at hj
    cases h1 : set.testBit j <;> simp_all
  refine zb_ext (fun i hi => ?_)
  rw [zb_and, zb_not, zb_nI (by omega), zb_nI (by omega), zb_nI (by omega)]
  simp only [hi, decide_true, Bool.true_and, z_nx, Nat.testBit_and, Nat.testBit_xor]
  cases set.testBit i <;> simp
