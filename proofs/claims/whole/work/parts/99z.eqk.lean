/-! What is known, and rows: the same in the class and in the model -/
theorem y_three {zs ys : List (Int32 × Int32)} (h : q_ok zs ys) (ht : y_mr ys (0, 0) = some (0, 1)) (kn : Int32 → Int32) : y_v ys kn = 0 ∨ y_v ys kn = 1 ∨ y_v ys kn = 2 := by
  obtain ⟨h1, h2⟩ := h
  subst h1
  obtain ⟨st2, ms2, st2', g1, g2, A, B, rfl, hA, hB, rfl, -, hb⟩ := y_sims kn zs h2 (y_link zs h2 _ _ ht) y_R0
  have eA : A = [] := List.length_eq_zero_iff.mp hA
  subst eA
  match B, hB with
  | [(v, b)], _ =>
    have ev : y_v (p_fl zs) kn = v := by unfold y_v; rw [g2]; rfl
    rw [ev]
    exact hb (v, b) (by simp)
/-- the ledger holds the model's tellings -/
def l_ok (I M : Nat → Nat → Int32) (c : Nat) : Prop := (∀ t, t < c → ∃ k f m, k < 2 ∧ f < 16 ∧ m < 6 ∧ M 72 t = nI k ∧ M 73 t = nI f ∧ M 74 t = nI m ∧ I 7 t = nI (96 * k + 6 * f + m) ∧ I 8 t = M 75 t ∧ I 9 t = M 76 t) ∧ (∀ t u, t ≤ u → u < c → M 76 t ≤ M 76 u) ∧ ∀ t, t < c → -1 ≤ M 75 t ∧ M 75 t ≤ 999
theorem x_pl_ok {dy : Nat → Int32} {day : Int32} : ∀ (k i : Nat), i ≤ x_pl dy day k i ∧ x_pl dy day k i ≤ i + k ∧ (∀ t, i ≤ t → t < x_pl dy day k i → dy t ≤ day) ∧ (x_pl dy day k i < i + k → ¬ dy (x_pl dy day k i) ≤ day)
  | 0, i => ⟨Nat.le_refl _, Nat.le_refl _, fun t h1 h2 => by rw [x_pl] at h2; omega, fun h => by rw [x_pl] at h; omega⟩
  | k + 1, i => by
    rw [x_pl]
    by_cases h : dy i ≤ day
    · rw [if_pos h]
      obtain ⟨a, b, c, d⟩ := x_pl_ok (dy := dy) (day := day) k (i + 1)
      refine ⟨by omega, by omega, fun t h1 h2 => ?_, fun h1 => d (by omega)⟩
      by_cases e : t = i
      · rw [e]; exact h
      · exact c t (by omega) h2
    · rw [if_neg h]
      exact ⟨Nat.le_refl _, by omega, fun t h1 h2 => by omega, fun _ => h⟩
theorem l_kn {I M : Nat → Nat → Int32} {c : Nat} (h : l_ok I M c) {k f m : Nat} (hk : k < 2) (hf : f < 16) (hm : m < 6) (d : Int32) : mI_kn M c (nI k) (nI f) (nI m) d = x_kn (I 7) (I 8) (96 * k + 6 * f + m) (x_pl (I 9) d c 0) := by
  obtain ⟨a, b, e1, e2⟩ := x_pl_ok (dy := I 9) (day := d) c 0
  rw [Nat.zero_add] at b e2
  have low : ∀ t, t ≤ x_pl (I 9) d c 0 → mI_kn M t (nI k) (nI f) (nI m) d = x_kn (I 7) (I 8) (96 * k + 6 * f + m) t := by
    intro t
    induction t with
    | zero => intro _; rfl
    | succ t ih =>
      intro ht
      obtain ⟨k', f', m', q1, q2, q3, q4, q5, q6, q7, q8, q9⟩ := h.1 t (by omega)
      have hd := e1 t (by omega) (by omega)
      rw [q9] at hd
      have ih' := ih (by omega)
      rw [mI_kn, m_kn, x_kn]
      have e : (M 72 t = nI k ∧ M 73 t = nI f ∧ M 74 t = nI m ∧ M 76 t ≤ d) ↔ I 7 t = nI (96 * k + 6 * f + m) := by
        rw [q4, q5, q6, q7, nI_eq (by omega) (by omega), nI_eq (by omega) (by omega), nI_eq (by omega) (by omega), nI_eq (by omega) (by omega)]
        constructor
        · rintro ⟨rfl, rfl, rfl, _⟩; rfl
        · intro z
          exact ⟨by omega, by omega, by omega, hd⟩
      by_cases q : I 7 t = nI (96 * k + 6 * f + m)
      · rw [if_pos (e.mpr q), if_pos q, q8]
      · rw [if_neg (fun z => q (e.mp z)), if_neg q]
        exact ih'
  have high : ∀ t, t + x_pl (I 9) d c 0 ≤ c → mI_kn M (t + x_pl (I 9) d c 0) (nI k) (nI f) (nI m) d = mI_kn M (x_pl (I 9) d c 0) (nI k) (nI f) (nI m) d := by
    intro t
    induction t with
    | zero => intro _; rw [Nat.zero_add]
    | succ t ih =>
      intro ht
      have ih' := ih (by omega)
      rw [show t + 1 + x_pl (I 9) d c 0 = (t + x_pl (I 9) d c 0) + 1 by omega]
      have hn : ¬ M 76 (t + x_pl (I 9) d c 0) ≤ d := by
        intro q
        have h1 := h.2.1 (x_pl (I 9) d c 0) (t + x_pl (I 9) d c 0) (by omega) (by omega)
        obtain ⟨_, _, _, _, _, _, _, _, _, _, _, q9⟩ := h.1 (x_pl (I 9) d c 0) (by omega)
        exact e2 (by omega) (by rw [q9]; exact Int32.le_trans h1 q)
      show m_kn _ _ _ _ _ _ _ _ _ _ = _
      rw [m_kn, if_neg (fun z => hn z.2.2.2)]
      exact ih'
  have := high (c - x_pl (I 9) d c 0) (by omega)
  rw [show c - x_pl (I 9) d c 0 + x_pl (I 9) d c 0 = c by omega] at this
  rw [this, low _ (Nat.le_refl _)]
/-- known values of a day -/
def l_kv (I M : Nat → Nat → Int32) (c : Nat) (q : Nat) (d : Int32) : Prop := ∀ k f m, k < 2 → f < 16 → m < 6 → I q (96 * k + 6 * f + m) = mI_kn M c (nI k) (nI f) (nI m) d
theorem l_kv_of {I I' M : Nat → Nat → Int32} {c q : Nat} {d : Int32} (h : l_ok I M c) (hg : ∀ s, s < 192 → I' q s = x_kn (I 7) (I 8) s (x_pl (I 9) d c 0)) : l_kv I' M c q d := fun k f m hk hf hm => by rw [hg _ (by omega), l_kn h hk hf hm]
theorem l_me {I M : Nat → Nat → Int32} {c q : Nat} {d k : Int32} (h : l_kv I M c q d) (hk : k = 0 ∨ k = 1 ∨ k = 2) {f m : Nat} (hf : f < 16) (hm : m < 6) : x_me (I q) k f (nI m) = mI_known M c k (nI f) (nI m) d := by
  have h0 := h 0 f m (by omega) hf hm
  have h1 := h 1 f m (by omega) hf hm
  rw [show 96 * 0 + 6 * f + m = 6 * f + m by omega] at h0
  rw [show 96 * 1 + 6 * f + m = 96 + (6 * f + m) by omega] at h1
  have h0' : I q (6 * f + m) = mI_kn M c 0 (nI f) (nI m) d := h0
  have h1' : I q (96 + (6 * f + m)) = mI_kn M c 1 (nI f) (nI m) d := h1
  unfold x_me
  rw [nI_clamp (by omega), h0', h1']
  unfold mI_known m_known x_two
  rcases hk with rfl | rfl | rfl
  · rw [if_pos rfl, if_pos (by decide)]
  · rw [if_neg (by decide), if_pos (Or.inl rfl), if_pos (by decide)]
  · rw [if_neg (by decide), if_neg (show ¬ (2 : Int32) < 2 by decide)]
    show (if (2 : Int32) = 1 ∨ mI_kn M c 0 (nI f) (nI m) d = -1 then _ else _) = _
    by_cases a : mI_kn M c 0 (nI f) (nI m) d = -1
    · rw [if_pos (Or.inr a), if_pos a]
    · rw [if_neg (fun z => z.elim (by decide) a), if_neg a]
      by_cases b : mI_kn M c 1 (nI f) (nI m) d = -1
      · rw [if_pos (Or.inl b), if_pos b]
      · rw [if_neg b]
        by_cases e : mI_kn M c 0 (nI f) (nI m) d = mI_kn M c 1 (nI f) (nI m) d
        · rw [if_pos (Or.inr e.symm), if_pos e]
        · rw [if_neg (fun z => z.elim b (fun z => e z.symm)), if_neg e]
/-- a mark is told alike -/
theorem l_tr {I M : Nat → Nat → Int32} {c q cd N : Nat} {d k : Int32} {tr : Nat → (Int32 → Int32) → Int32} (hsc : x_scale I cd N tr) {I' : Nat → Nat → Int32} (h : l_kv I' M c q d) (hk : k = 0 ∨ k = 1 ∨ k = 2) {f i : Nat} (hf : f < 16) (hi : i < N) : tr i (x_me (I' q) k f) = mT M c tr k d i (nI f) := x_tr_congr hsc hi (fun a ha => by
  obtain ⟨m, hm, rfl⟩ := x_lt6 ha
  exact l_me h hk hf hm)
theorem x_bits_b {T : Nat → Int32} {v : Int32} : ∀ {N : Nat}, N ≤ 16 → ∀ i, zb (x_bits T v N) i = (decide (i < N) && decide (T i = v))
  | 0, _, i => by simp [x_bits, zb_0]
  | N + 1, hN, i => by
    have ih := x_bits_b (T := T) (v := v) (N := N) (by omega) i
    rw [x_bits]
    by_cases h : T N = v
    · rw [if_pos h, zb_or, ih, zb_sh1 (by omega)]
      by_cases e : i = N
      · subst e; simp [h]
      · by_cases e2 : i < N
        · have : i < N + 1 := by omega
          simp [e, e2, this]
        · have : ¬ i < N + 1 := by omega
          simp [e, e2, this]
    · rw [if_neg h, ih]
      by_cases e : i = N
      · subst e; simp [h]
      · by_cases e2 : i < N
        · have : i < N + 1 := by omega
          simp [e2, this]
        · have : ¬ i < N + 1 := by omega
          simp [e2, this]
theorem m_row_b {T : Nat → Int32 → Int32} {mode f : Int32} : ∀ {N : Nat}, N ≤ 16 → ∀ i, zb (m_row T mode f N) i = (decide (i < N) && decide (T i f = 1 ∨ (T i f = 2 ∧ mode = 1)))
  | 0, _, i => by simp [m_row, zb_0]
  | N + 1, hN, i => by
    have ih := m_row_b (T := T) (mode := mode) (f := f) (N := N) (by omega) i
    rw [m_row]
    by_cases h : T N f = 1 ∨ (T N f = 2 ∧ mode = 1)
    · rw [if_pos h, zb_or, ih, zb_sh1 (by omega)]
      by_cases e : i = N
      · subst e; simp [h]
      · by_cases e2 : i < N
        · have : i < N + 1 := by omega
          simp [e, e2, this]
        · have : ¬ i < N + 1 := by omega
          simp [e, e2, this]
    · rw [if_neg h, ih]
      by_cases e : i = N
      · subst e; simp [h]
      · by_cases e2 : i < N
        · have : i < N + 1 := by omega
          simp [e2, this]
        · have : ¬ i < N + 1 := by omega
          simp [e2, this]
theorem m_row_in {T : Nat → Int32 → Int32} {mode f : Int32} {N : Nat} (hN : N ≤ 16) : b_in N (m_row T mode f N) := fun i hi => by
  rw [m_row_b hN]
  have : ¬ i < N := by omega
  simp [this]
/-- rows -/
theorem l_row {T : Nat → Int32 → Int32} {T' : Nat → Int32} {mode f : Int32} {N : Nat} (hN : N ≤ 16) (hm : mode = 0 ∨ mode = 1) (h : ∀ i, i < N → T' i = T i f) {su op : Nat → Int32} {g : Nat} (h1 : su g = x_bits T' 1 N) (h2 : op g = x_bits T' 2 N) : x_row su op mode g = m_row T mode f N := zb_ext (fun i _ => by
  rw [m_row_b hN, x_row, h1, h2]
  rcases hm with rfl | rfl
  · rw [if_pos rfl, x_bits_b hN]
    by_cases hi : i < N
    · rw [h i hi]
      have : ¬ (0 : Int32) = 1 := by decide
      simp [hi, this]
    · simp [hi]
  · rw [if_neg (by decide), zb_or, x_bits_b hN, x_bits_b hN]
    by_cases hi : i < N
    · rw [h i hi]
      simp [hi]
    · simp [hi])
/-- the truth of a mark out of a row -/
theorem l_truth {T : Nat → Int32} {N i : Nat} (hN : N ≤ 16) (hi : i < N) (h3 : T i = 0 ∨ T i = 1 ∨ T i = 2) {a b : Int32} (ha : a = x_bits T 1 N) (hb : b = x_bits T 2 N) : a >>> (nI i &&& 31) &&& 1 ||| (b >>> (nI i &&& 31) &&& 1) <<< ((1 : Int32) &&& 31) = T i := by
  rw [ha, hb, zb_get _ (by omega), zb_get _ (by omega), x_bits_b hN, x_bits_b hN]
  rcases h3 with z | z | z
  · rw [z]; simp [hi]
  · rw [z]; simp [hi]
  · rw [z]; simp [hi]; decide
