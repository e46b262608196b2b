/-! Rows of finds, counted: what they are -/
def s_sum (g : Nat → Nat) : Nat → Nat
  | 0 => 0
  | p + 1 => s_sum g p + g p
theorem s_sum_congr {g g' : Nat → Nat} : ∀ {n : Nat}, (∀ p, p < n → g p = g' p) → s_sum g n = s_sum g' n
  | 0, _ => rfl
  | n + 1, h => by rw [s_sum, s_sum, s_sum_congr (fun p hp => h p (by omega)), h n (by omega)]
theorem s_sum_le {g g' : Nat → Nat} : ∀ {n : Nat}, (∀ p, p < n → g p ≤ g' p) → s_sum g n ≤ s_sum g' n
  | 0, _ => Nat.le_refl _
  | n + 1, h => by
    have := s_sum_le (n := n) (fun p hp => h p (by omega))
    have := h n (by omega)
    rw [s_sum, s_sum]
    omega
/-- two places changed for each other -/
def s_sw (a b p : Nat) : Nat := if p = a then b else if p = b then a else p
theorem s_sw_sw (a b p : Nat) : s_sw a b (s_sw a b p) = p := by
  unfold s_sw
  by_cases h1 : p = a
  · by_cases h3 : b = a
    · simp [h1, h3]
    · simp [h1, h3]
  · by_cases h2 : p = b
    · simp [h1, h2]
    · simp [h1, h2]
theorem s_sw_lt {a b n p : Nat} (ha : a < n) (hb : b < n) (hp : p < n) : s_sw a b p < n := by
  unfold s_sw
  split
  · exact hb
  · split
    · exact ha
    · exact hp
/-- a sum does not hang on the order of its places -/
theorem s_sum_one (g : Nat → Nat) {a : Nat} : ∀ {n : Nat}, a < n → s_sum g n = s_sum (fun p => if p = a then 0 else g p) n + g a
  | 0, h => by omega
  | n + 1, h => by
    by_cases e : a = n
    · subst e
      have : s_sum (fun p => if p = a then 0 else g p) a = s_sum g a := s_sum_congr (fun p hp => if_neg (by omega))
      rw [s_sum, s_sum, this]
      simp
    · have ih := s_sum_one g (a := a) (n := n) (by omega)
      rw [s_sum, s_sum, ih, if_neg (show ¬ n = a by omega)]
      omega
theorem s_sum_sw (g : Nat → Nat) {a b n : Nat} (ha : a < n) (hb : b < n) : s_sum (fun p => g (s_sw a b p)) n = s_sum g n := by
  by_cases e : a = b
  · subst e
    refine s_sum_congr (fun p _ => ?_)
    unfold s_sw
    by_cases h : p = a
    · simp [h]
    · simp [h]
  · rw [s_sum_one g ha, s_sum_one (fun p => g (s_sw a b p)) ha]
    rw [s_sum_one (fun p => if p = a then 0 else g p) hb, s_sum_one (fun p => if p = a then 0 else g (s_sw a b p)) hb]
    have h1 : s_sum (fun p => if p = b then 0 else (fun p => if p = a then 0 else g (s_sw a b p)) p) n = s_sum (fun p => if p = b then 0 else (fun p => if p = a then 0 else g p) p) n := by
      refine s_sum_congr (fun p _ => ?_)
      by_cases h1 : p = b
      · simp [h1]
      · by_cases h2 : p = a
        · simp [h2]
        · simp [h1, h2, s_sw]
    rw [h1]
    simp only [s_sw, if_true, if_neg (show ¬ b = a from fun q => e q.symm)]
    omega
/-- how many places are free -/
def s_n (u : Nat → Bool) : Nat → Nat
  | 0 => 0
  | p + 1 => s_n u p + (if u p = true then 0 else 1)
theorem s_n_congr {u v : Nat → Bool} : ∀ {n : Nat}, (∀ p, p < n → u p = v p) → s_n u n = s_n v n
  | 0, _ => rfl
  | n + 1, h => by rw [s_n, s_n, s_n_congr (fun p hp => h p (by omega)), h n (by omega)]
theorem s_n_sum (u : Nat → Bool) : ∀ n, s_n u n = s_sum (fun p => if u p = true then 0 else 1) n
  | 0 => rfl
  | n + 1 => by rw [s_n, s_sum, s_n_sum u n]
/-- one place more is used -/
def s_add (u : Nat → Bool) (p : Nat) : Nat → Bool := fun q => if q = p then true else u q
theorem s_n_add {u : Nat → Bool} {p n : Nat} (hp : p < n) (h : u p = false) : s_n u n = s_n (s_add u p) n + 1 := by
  rw [s_n_sum, s_n_sum, s_sum_one _ hp, s_sum_one (fun q => if s_add u p q = true then 0 else 1) hp]
  have : s_sum (fun q => if q = p then 0 else (fun q => if u q = true then 0 else 1) q) n = s_sum (fun q => if q = p then 0 else (fun q => if s_add u p q = true then 0 else 1) q) n := by
    refine s_sum_congr (fun q _ => ?_)
    by_cases e : q = p
    · simp [e]
    · simp [e, s_add]
  rw [this]
  simp [h, s_add]
theorem s_n_0 {u : Nat → Bool} : ∀ {n : Nat}, s_n u n = 0 → ∀ p, p < n → u p = true
  | 0, _, p, hp => by omega
  | n + 1, h, p, hp => by
    rw [s_n] at h
    by_cases e : p = n
    · subst e
      cases hu : u p with
      | true => rfl
      | false => rw [hu] at h; simp at h
    · exact s_n_0 (n := n) (by omega) p (by omega)
/-- a block is begun and not ended -/
def s_bd (n : Nat) (b u : Nat → Bool) : Prop := (∃ p, p < n ∧ b p = true ∧ u p = true) ∧ ∃ p, p < n ∧ b p = true ∧ u p = false
/-- a place that may be next -/
def s_op (n : Nat) (B : List (Nat → Bool)) (u : Nat → Bool) (p : Nat) : Prop := u p = false ∧ ∀ b ∈ B, s_bd n b u → b p = true
/-- in how many ways it goes on -/
noncomputable def s_C (n : Nat) (B : List (Nat → Bool)) : Nat → (Nat → Bool) → Nat
  | 0, _ => 1
  | k + 1, u => s_sum (fun p => @ite _ (s_op n B u p) (Classical.propDecidable _) (s_C n B k (s_add u p)) 0) n
noncomputable def s_V (n : Nat) (B : List (Nat → Bool)) (u : Nat → Bool) : Nat := s_C n B (s_n u n) u
theorem s_V_0 {n : Nat} {B : List (Nat → Bool)} {u : Nat → Bool} (h : s_n u n = 0) : s_V n B u = 1 := by rw [s_V, h, s_C]
theorem s_V_s {n : Nat} {B : List (Nat → Bool)} {u : Nat → Bool} (h : s_n u n ≠ 0) : s_V n B u = s_sum (fun p => @ite _ (s_op n B u p) (Classical.propDecidable _) (s_V n B (s_add u p)) 0) n := by
  obtain ⟨k, hk⟩ : ∃ k, s_n u n = k + 1 := ⟨s_n u n - 1, by omega⟩
  rw [s_V, hk, s_C]
  refine s_sum_congr (fun p hp => ?_)
  by_cases ho : s_op n B u p
  · rw [if_pos ho, if_pos ho, s_V]
    have := s_n_add hp ho.1
    rw [show s_n (s_add u p) n = k by omega]
  · rw [if_neg ho, if_neg ho]
theorem s_bd_congr {n : Nat} {b u v : Nat → Bool} (h : ∀ p, p < n → u p = v p) : s_bd n b u ↔ s_bd n b v := by
  unfold s_bd
  constructor
  · rintro ⟨⟨p, h1, h2, h3⟩, ⟨q, h4, h5, h6⟩⟩
    exact ⟨⟨p, h1, h2, by rw [← h p h1]; exact h3⟩, ⟨q, h4, h5, by rw [← h q h4]; exact h6⟩⟩
  · rintro ⟨⟨p, h1, h2, h3⟩, ⟨q, h4, h5, h6⟩⟩
    exact ⟨⟨p, h1, h2, by rw [h p h1]; exact h3⟩, ⟨q, h4, h5, by rw [h q h4]; exact h6⟩⟩
theorem s_C_congr {n : Nat} {B B' : List (Nat → Bool)} (hB : ∀ u p, p < n → (s_op n B u p ↔ s_op n B' u p)) : ∀ (k : Nat) (u v : Nat → Bool), (∀ p, p < n → u p = v p) → s_C n B k u = s_C n B' k v
  | 0, _, _, _ => rfl
  | k + 1, u, v, h => by
    rw [s_C, s_C]
    refine s_sum_congr (fun p hp => ?_)
    have ho : s_op n B u p ↔ s_op n B' v p := by
      rw [hB u p hp]
      unfold s_op
      rw [h p hp]
      constructor
      · rintro ⟨a, c⟩
        exact ⟨a, fun b hb hd => c b hb ((s_bd_congr h).mpr hd)⟩
      · rintro ⟨a, c⟩
        exact ⟨a, fun b hb hd => c b hb ((s_bd_congr h).mp hd)⟩
    by_cases h1 : s_op n B u p
    · rw [if_pos h1, if_pos (ho.mp h1)]
      exact s_C_congr hB k _ _ (fun q hq => by unfold s_add; rw [h q hq])
    · rw [if_neg h1, if_neg (fun q => h1 (ho.mpr q))]
theorem s_V_congr {n : Nat} {B B' : List (Nat → Bool)} (hB : ∀ u p, p < n → (s_op n B u p ↔ s_op n B' u p)) {u v : Nat → Bool} (h : ∀ p, p < n → u p = v p) : s_V n B u = s_V n B' v := by
  rw [s_V, s_V, s_n_congr h]
  exact s_C_congr hB _ _ _ h
/-- mates stand for each other -/
def s_mt (B : List (Nat → Bool)) (a b : Nat) : Prop := ∀ c ∈ B, c a = c b
theorem s_bd_sw {n a b : Nat} {c u : Nat → Bool} (ha : a < n) (hb : b < n) (hc : c a = c b) : s_bd n c (fun p => u (s_sw a b p)) ↔ s_bd n c u := by
  have hcs : ∀ p, c (s_sw a b p) = c p := by
    intro p
    unfold s_sw
    by_cases h1 : p = a
    · simp [h1, hc]
    · by_cases h2 : p = b
      · subst h2; simp [h1, hc]
      · simp [h1, h2]
  unfold s_bd
  constructor
  · rintro ⟨⟨p, h1, h2, h3⟩, ⟨q, h4, h5, h6⟩⟩
    exact ⟨⟨_, s_sw_lt ha hb h1, by rw [hcs]; exact h2, h3⟩, ⟨_, s_sw_lt ha hb h4, by rw [hcs]; exact h5, h6⟩⟩
  · rintro ⟨⟨p, h1, h2, h3⟩, ⟨q, h4, h5, h6⟩⟩
    exact ⟨⟨_, s_sw_lt ha hb h1, by rw [hcs]; exact h2, by show u (s_sw a b (s_sw a b p)) = true; rw [s_sw_sw]; exact h3⟩, ⟨_, s_sw_lt ha hb h4, by rw [hcs]; exact h5, by show u (s_sw a b (s_sw a b q)) = false; rw [s_sw_sw]; exact h6⟩⟩
theorem s_C_sw {n a b : Nat} {B : List (Nat → Bool)} (ha : a < n) (hb : b < n) (hm : s_mt B a b) : ∀ (k : Nat) (u : Nat → Bool), s_C n B k (fun p => u (s_sw a b p)) = s_C n B k u
  | 0, _ => rfl
  | k + 1, u => by
    rw [s_C, s_C, ← s_sum_sw (fun p => @ite _ (s_op n B u p) (Classical.propDecidable _) (s_C n B k (s_add u p)) 0) ha hb]
    refine s_sum_congr (fun p hp => ?_)
    have hcs : ∀ c ∈ B, c (s_sw a b p) = c p := by
      intro c hc
      unfold s_sw
      by_cases h1 : p = a
      · simp [h1, hm c hc]
      · by_cases h2 : p = b
        · subst h2; simp [h1, hm c hc]
        · simp [h1, h2]
    have ho : s_op n B (fun p => u (s_sw a b p)) p ↔ s_op n B u (s_sw a b p) := by
      unfold s_op
      constructor
      · rintro ⟨h1, h2⟩
        exact ⟨h1, fun c hc hd => by rw [hcs c hc]; exact h2 c hc ((s_bd_sw ha hb (hm c hc)).mpr hd)⟩
      · rintro ⟨h1, h2⟩
        exact ⟨h1, fun c hc hd => by rw [← hcs c hc]; exact h2 c hc ((s_bd_sw ha hb (hm c hc)).mp hd)⟩
    by_cases h1 : s_op n B (fun p => u (s_sw a b p)) p
    · rw [if_pos h1, if_pos (ho.mp h1)]
      refine Eq.trans (s_C_congr (fun _ _ _ => Iff.rfl) k _ (fun q => s_add u (s_sw a b p) (s_sw a b q)) (fun q _ => ?_)) (s_C_sw ha hb hm k _)
      unfold s_add
      by_cases e : q = p
      · subst e; simp
      · have : ¬ s_sw a b q = s_sw a b p := fun z => e (by rw [← s_sw_sw a b q, z, s_sw_sw])
        simp [e, this]
    · rw [if_neg h1, if_neg (fun q => h1 (ho.mpr q))]
theorem s_n_sw {n a b : Nat} (ha : a < n) (hb : b < n) (u : Nat → Bool) : s_n (fun p => u (s_sw a b p)) n = s_n u n := by
  rw [s_n_sum, s_n_sum]
  exact s_sum_sw (fun p => if u p = true then 0 else 1) ha hb
theorem s_V_sw {n a b : Nat} {B : List (Nat → Bool)} (ha : a < n) (hb : b < n) (hm : s_mt B a b) (u : Nat → Bool) : s_V n B (fun p => u (s_sw a b p)) = s_V n B u := by
  rw [s_V, s_V, s_n_sw ha hb]
  exact s_C_sw ha hb hm _ u
/-- there are at most so many -/
def s_fac : Nat → Nat
  | 0 => 1
  | k + 1 => (k + 1) * s_fac k
theorem s_sum_bd (u : Nat → Bool) (c : Nat) : ∀ n, s_sum (fun p => if u p = true then 0 else c) n = s_n u n * c
  | 0 => by simp [s_sum, s_n]
  | n + 1 => by
    rw [s_sum, s_sum_bd u c n, s_n]
    by_cases h : u n = true
    · simp [h]
    · simp [h, Nat.add_mul]
theorem s_V_le {n : Nat} {B : List (Nat → Bool)} : ∀ (k : Nat) (u : Nat → Bool), s_n u n = k → s_V n B u ≤ s_fac k := by
  intro k
  induction k with
  | zero =>
    intro u h
    rw [s_V_0 h]
    exact Nat.le_refl _
  | succ k ih =>
    intro u h
    rw [s_V_s (by omega), s_fac]
    have : s_sum (fun p => @ite _ (s_op n B u p) (Classical.propDecidable _) (s_V n B (s_add u p)) 0) n ≤ s_sum (fun p => if u p = true then 0 else s_fac k) n := by
      refine s_sum_le (fun p hp => ?_)
      by_cases ho : s_op n B u p
      · rw [if_pos ho, if_neg (by rw [ho.1]; decide)]
        refine ih _ ?_
        have := s_n_add hp ho.1
        omega
      · rw [if_neg ho]
        exact Nat.zero_le _
    rw [s_sum_bd, h] at this
    exact this
