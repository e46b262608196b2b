/-! Sets told backwards: closures, closed sets, rules, steps, questions are the same -/
/-- a set of N marks -/
abbrev b_in (N : Nat) (s : Int32) : Prop := ∀ i, N ≤ i → zb s i = false
theorem b_bw (s : Int32) {N : Nat} (hN : N ≤ 16) : b_in N (x_bw s N) := fun _ hi => x_bw_rng hN hi
theorem b_inv {s : Int32} {N : Nat} (hN : N ≤ 16) (h : b_in N s) : x_bw (x_bw s N) N = s := zb_ext (fun i _ => by
  rw [x_bw_bits _ i N (by omega), x_bw_bits s (N - 1 - i) N (by omega)]
  by_cases q : i < N
  · have e : N - 1 - (N - 1 - i) = i := by omega
    have q2 : N - 1 - i < N := by omega
    simp [q, q2, e]
  · rw [h i (by omega)]; simp [q])
theorem b_sub {a b : Int32} {N : Nat} (hN : N ≤ 16) (ha : b_in N a) (hb : b_in N b) : x_bw a N &&& x_bw b N = x_bw a N ↔ a &&& b = a := by
  rw [zb_sub', zb_sub']
  constructor
  · intro h i hi
    have hiN : i < N := by
      rcases Nat.lt_or_ge i N with q | q
      · exact q
      · rw [ha i q] at hi; cases hi
    have h1 := h (N - 1 - i) (by rw [x_bw_bits a _ N (by omega), show N - 1 - (N - 1 - i) = i by omega, hi]; simp; omega)
    rw [x_bw_bits b _ N (by omega), show N - 1 - (N - 1 - i) = i by omega, Bool.and_eq_true] at h1
    exact h1.2
  · intro h i hi
    rw [x_bw_bits a i N (by omega), Bool.and_eq_true, decide_eq_true_eq] at hi
    rw [x_bw_bits b i N (by omega), h _ hi.2]
    simp [hi.1]
theorem b_inj {a b : Int32} {N : Nat} (hN : N ≤ 16) (ha : b_in N a) (hb : b_in N b) : x_bw a N = x_bw b N ↔ a = b := ⟨fun h => by rw [← b_inv hN ha, h, b_inv hN hb], fun h => by rw [h]⟩
theorem b_and (a b : Int32) {N : Nat} (hN : N ≤ 16) : x_bw (a &&& b) N = x_bw a N &&& x_bw b N := zb_ext (fun i _ => by
  rw [zb_and, x_bw_bits _ i N (by omega), x_bw_bits _ i N (by omega), x_bw_bits _ i N (by omega), zb_and]
  by_cases q : i < N <;> simp [q])
theorem b_or (a b : Int32) {N : Nat} (hN : N ≤ 16) : x_bw (a ||| b) N = x_bw a N ||| x_bw b N := zb_ext (fun i _ => by
  rw [zb_or, x_bw_bits _ i N (by omega), x_bw_bits _ i N (by omega), x_bw_bits _ i N (by omega), zb_or]
  by_cases q : i < N <;> simp [q])
theorem b_full {N : Nat} (hN : N ≤ 16) : b_in N (nI (2 ^ N) - 1) ∧ x_bw (nI (2 ^ N) - 1) N = nI (2 ^ N) - 1 := by
  refine ⟨fun i hi => by rw [zb_full hN]; simp; omega, zb_ext (fun i _ => ?_)⟩
  rw [x_bw_bits _ i N (by omega), zb_full hN, zb_full hN]
  by_cases q : i < N
  · have : N - 1 - i < N := by omega
    simp [q, this]
  · simp [q]
theorem b_andin {a b : Int32} {N : Nat} (ha : b_in N a) : b_in N (a &&& b) := fun i hi => by rw [zb_and, ha i hi]; rfl
theorem b_orin {a b : Int32} {N : Nat} (ha : b_in N a) (hb : b_in N b) : b_in N (a ||| b) := fun i hi => by rw [zb_or, ha i hi, hb i hi]; rfl
theorem b_clo {row : Nat → Int32} {s a : Int32} {N : Nat} (hN : N ≤ 16) (hs : b_in N s) (ha : b_in N a) : ∀ {F : Nat}, (∀ f, f < F → b_in N (row f)) → b_in N (m_clo row s a F) ∧ m_clo (fun f => x_bw (row f) N) (x_bw s N) (x_bw a N) F = x_bw (m_clo row s a F) N
  | 0, _ => ⟨ha, rfl⟩
  | f + 1, h => by
    obtain ⟨i1, i2⟩ := b_clo hN hs ha (F := f) (fun g hg => h g (by omega))
    have e : (x_bw (row f) N &&& x_bw s N = x_bw s N) ↔ (row f &&& s = s) := by
      rw [Int32.and_comm, b_sub hN hs (h f (by omega)), Int32.and_comm]
    rw [m_clo, m_clo]
    by_cases q : row f &&& s = s
    · rw [if_pos q, if_pos (e.mpr q), i2, b_and _ _ hN]
      exact ⟨b_andin i1, rfl⟩
    · rw [if_neg q, if_neg (fun z => q (e.mp z)), i2]
      exact ⟨i1, rfl⟩
/-- the order's sets -/
theorem mS_bits {N v : Nat} (hN : N ≤ 16) : ∀ {m : Nat}, m ≤ N → ∀ i, zb (m_setAt (nI v) (nI N) m) i = (decide (i < m) && zb (nI v) (N - 1 - i))
  | 0, _, i => by simp [m_setAt, zb_0]
  | m + 1, hm, i => by
    have ih := mS_bits (v := v) hN (m := m) (by omega)
    have e1 : nI N - 1 - nI m = nI (N - 1 - m) := by
      rw [show (1 : Int32) = nI 1 from rfl, nI_sub' (by omega), nI_sub' (by omega)]
    rw [m_setAt, e1]
    by_cases q : nI v >>> (nI (N - 1 - m) &&& 31) &&& 1 = 1
    · rw [if_pos q, zb_or, ih, zb_sh1 (by omega)]
      have hb := (zb_get1 (by omega)).mp q
      by_cases h1 : i = m
      · subst h1; simp [hb]
      · by_cases h2 : i < m
        · have : i < m + 1 := by omega
          simp [h1, h2, this]
        · have : ¬ i < m + 1 := by omega
          simp [h1, h2, this]
    · rw [if_neg q, ih]
      have hb : zb (nI v) (N - 1 - m) = false := by
        cases hz : zb (nI v) (N - 1 - m) with
        | false => rfl
        | true => exact absurd ((zb_get1 (by omega)).mpr hz) q
      by_cases h1 : i = m
      · subst h1; simp [hb]
      · by_cases h2 : i < m
        · have : i < m + 1 := by omega
          simp [h2, this]
        · have : ¬ i < m + 1 := by omega
          simp [h2, this]
theorem mS_bw {N v : Nat} (hN : N ≤ 16) : mS N v = x_bw (nI v) N := zb_ext (fun i _ => by rw [mS_bits hN (Nat.le_refl _), x_bw_bits _ i N (by omega)])
theorem mS_in {N v : Nat} (hN : N ≤ 16) : b_in N (mS N v) := by rw [mS_bw hN]; exact b_bw _ hN
theorem nI_mS {N v : Nat} (hN : N ≤ 16) (hv : v < 2 ^ N) : nI v = x_bw (mS N v) N := by
  rw [mS_bw hN, b_inv hN (fun i hi => zb_of hN hv hi)]
/-- closed sets -/
theorem b_cl {N : Nat} (hN : N ≤ 16) {cl cl' : Int32 → Int32} (h : ∀ s, b_in N s → b_in N (cl s) ∧ cl' (x_bw s N) = x_bw (cl s) N) : ∀ v, v ≤ 2 ^ N → m_cl nI cl' v = (m_cl (mS N) cl v).map (fun s => x_bw s N)
  | 0, _ => rfl
  | v + 1, hv => by
    have ih := b_cl hN h v (by omega)
    have hi := mS_in (N := N) (v := v) hN
    obtain ⟨h1, h2⟩ := h (mS N v) hi
    rw [m_cl, m_cl, ih, nI_mS hN (show v < 2 ^ N by omega), h2]
    by_cases q : cl (mS N v) = mS N v
    · rw [if_pos q, if_pos (by rw [q]), List.map_append]; rfl
    · rw [if_neg q, if_neg (fun z => q ((b_inj hN h1 hi).mp z))]
theorem m_cl_in {N : Nat} (hN : N ≤ 16) {cl : Int32 → Int32} : ∀ v, ∀ s ∈ m_cl (mS N) cl v, b_in N s
  | 0, s, h => by cases h
  | v + 1, s, h => by
    rw [m_cl] at h
    split at h
    · rcases List.mem_append.mp h with h | h
      · exact m_cl_in hN v s h
      · rw [List.mem_singleton.mp h]; exact mS_in hN
    · exact m_cl_in hN v s h
/-- rules -/
theorem m_rl_in {N : Nat} (hN : N ≤ 16) {cl : Int32 → Int32} (hc : ∀ s, b_in N s → b_in N (cl s)) : ∀ v, ∀ r ∈ m_rl (mS N) cl v, b_in N r.1 ∧ b_in N r.2 ∧ r.2 = cl r.1
  | 0, r, h => by cases h
  | v + 1, r, h => by
    rw [m_rl] at h
    split at h
    · rcases List.mem_append.mp h with h | h
      · exact m_rl_in hN hc v r h
      · rw [List.mem_singleton.mp h]; exact ⟨mS_in hN, hc _ (mS_in hN), rfl⟩
    · exact m_rl_in hN hc v r h
theorem b_kp {N : Nat} (hN : N ≤ 16) {s : Int32} {r : Int32 × Int32} (hs : b_in N s) (h1 : b_in N r.1) (h2 : b_in N r.2) : m_kp (x_bw s N) (x_bw r.1 N, x_bw r.2 N) ↔ m_kp s r := by
  unfold m_kp
  rw [b_sub hN h1 hs, b_sub hN h2 hs]
theorem b_rl {N : Nat} (hN : N ≤ 16) {cl cl' : Int32 → Int32} (h : ∀ s, b_in N s → b_in N (cl s) ∧ cl' (x_bw s N) = x_bw (cl s) N) : ∀ v, v ≤ 2 ^ N → m_rl nI cl' v = (m_rl (mS N) cl v).map (fun r => (x_bw r.1 N, x_bw r.2 N))
  | 0, _ => rfl
  | v + 1, hv => by
    have ih := b_rl hN h v (by omega)
    have hi := mS_in (N := N) (v := v) hN
    obtain ⟨h1, h2⟩ := h (mS N v) hi
    have hin := m_rl_in hN (cl := cl) (fun s hs => (h s hs).1) v
    have e : (¬ x_bw (cl (mS N v)) N = x_bw (mS N v) N ∧ ∀ r ∈ (m_rl (mS N) cl v).map (fun r => (x_bw r.1 N, x_bw r.2 N)), m_kp (x_bw (mS N v) N) r) ↔ (¬ cl (mS N v) = mS N v ∧ ∀ r ∈ m_rl (mS N) cl v, m_kp (mS N v) r) := by
      rw [b_inj hN h1 hi]
      refine and_congr Iff.rfl ⟨fun q r hr => ?_, fun q r hr => ?_⟩
      · obtain ⟨a, b, _⟩ := hin r hr
        exact (b_kp hN hi a b).mp (q _ (List.mem_map.mpr ⟨r, hr, rfl⟩))
      · obtain ⟨r0, hr0, rfl⟩ := List.mem_map.mp hr
        obtain ⟨a, b, _⟩ := hin r0 hr0
        exact (b_kp hN hi a b).mpr (q r0 hr0)
    rw [m_rl, m_rl, ih, nI_mS hN (show v < 2 ^ N by omega), h2]
    by_cases q : ¬ cl (mS N v) = mS N v ∧ ∀ r ∈ m_rl (mS N) cl v, m_kp (mS N v) r
    · rw [if_pos q, if_pos (e.mpr q), List.map_append]; rfl
    · rw [if_neg q, if_neg (fun z => q (e.mp z))]
/-- places -/
theorem b_idx {N : Nat} (hN : N ≤ 16) {s : Int32} (hs : b_in N s) : ∀ (LL : List Int32), (∀ x ∈ LL, b_in N x) → ∀ k, m_idx (x_bw s N) (LL.map (fun s => x_bw s N)) k = m_idx s LL k
  | [], _, k => rfl
  | x :: r, h, k => by
    rw [List.map_cons, m_idx, m_idx, b_idx hN hs r (fun y hy => h y (List.mem_cons_of_mem _ hy)) (k + 1)]
    by_cases q : x = s
    · rw [if_pos q, if_pos (by rw [q])]
    · rw [if_neg q, if_neg (fun z => q ((b_inj hN (h x List.mem_cons_self) hs).mp z))]
theorem b_back {N : Nat} (hN : N ≤ 16) (LL : List Int32) (h : ∀ x ∈ LL, b_in N x) : (LL.map (fun s => x_bw s N)).map (fun s => x_bw s N) = LL := by
  rw [List.map_map]
  conv => rhs; rw [← List.map_id LL]
  exact List.map_congr_left (fun x hx => b_inv hN (h x hx))
/-- steps -/
theorem b_ft {N : Nat} (hN : N ≤ 16) {s : Int32} (hs : b_in N s) : ∀ (LL : List (Int32 × Int32)), (∀ r ∈ LL, b_in N r.1 ∧ b_in N r.2) → ∀ k, m_ft (x_bw s N) (LL.map (fun r => (x_bw r.1 N, x_bw r.2 N))) k = m_ft s LL k
  | [], _, k => rfl
  | r :: t, h, k => by
    obtain ⟨h1, h2⟩ := h r List.mem_cons_self
    rw [List.map_cons, m_ft, m_ft, b_ft hN hs t (fun y hy => h y (List.mem_cons_of_mem _ hy)) (k + 1)]
    have e : (x_bw r.1 N &&& x_bw s N = x_bw r.1 N ∧ ¬ x_bw r.2 N &&& x_bw s N = x_bw r.2 N) ↔ (r.1 &&& s = r.1 ∧ ¬ r.2 &&& s = r.2) := by rw [b_sub hN h1 hs, b_sub hN h2 hs]
    by_cases q : r.1 &&& s = r.1 ∧ ¬ r.2 &&& s = r.2
    · rw [if_pos q, if_pos (e.mpr q)]
    · rw [if_neg q, if_neg (fun z => q (e.mp z))]
theorem b_wk {N : Nat} (hN : N ≤ 16) {LL : List (Int32 × Int32)} (h : ∀ r ∈ LL, b_in N r.1 ∧ b_in N r.2) : ∀ (k : Nat) (s : Int32), b_in N s → b_in N (m_wk LL k s).2 ∧ (m_wk (LL.map (fun r => (x_bw r.1 N, x_bw r.2 N))) k (x_bw s N)).1 = (m_wk LL k s).1 ∧ (m_wk (LL.map (fun r => (x_bw r.1 N, x_bw r.2 N))) k (x_bw s N)).2 = x_bw (m_wk LL k s).2 N
  | 0, s, hs => ⟨hs, rfl, rfl⟩
  | k + 1, s, hs => by
    have ef := b_ft hN hs LL h 0
    cases e : m_ft s LL 0 with
    | none =>
      rw [e] at ef
      rw [m_wk_n e, m_wk_n ef]
      exact ⟨hs, rfl, rfl⟩
    | some i =>
      rw [e] at ef
      obtain ⟨_, hi, r, hr, _⟩ := m_ft_some e
      rw [Nat.sub_zero] at hr
      have e1 : (LL.getD i (0, 0)).2 = r.2 := by rw [List.getD_eq_getElem?_getD, hr]; rfl
      have e2 : ((LL.map (fun r => (x_bw r.1 N, x_bw r.2 N))).getD i (0, 0)).2 = x_bw r.2 N := by rw [List.getD_eq_getElem?_getD, List.getElem?_map, hr]; rfl
      have h2 := (h r (List.mem_of_getElem? hr)).2
      obtain ⟨i0, i1, i2⟩ := b_wk hN h k (s ||| r.2) (b_orin hs h2)
      rw [m_wk_s e, m_wk_s ef]
      simp only [e1, e2, ← b_or _ _ hN, i1, i2]
      exact ⟨i0, trivial, trivial⟩
/-- questions -/
theorem b_fq {N : Nat} (hN : N ≤ 16) {kp kp' : Int32 → Prop} {cl cl' : Int32 → Int32} (h : ∀ s, b_in N s → b_in N (cl s) ∧ cl' (x_bw s N) = x_bw (cl s) N) (hk : ∀ s, b_in N s → (kp' (x_bw s N) ↔ kp s)) : ∀ k v, v + k ≤ 2 ^ N → m_fq nI kp' cl' k v = m_fq (mS N) kp cl k v
  | 0, v, _ => rfl
  | k + 1, v, hv => by
    have hi := mS_in (N := N) (v := v) hN
    obtain ⟨h1, h2⟩ := h (mS N v) hi
    have e : (kp' (nI v) ∧ ¬ cl' (nI v) = nI v) ↔ (kp (mS N v) ∧ ¬ cl (mS N v) = mS N v) := by
      rw [nI_mS hN (show v < 2 ^ N by omega), hk _ hi, h2, b_inj hN h1 hi]
    rw [m_fq, m_fq, b_fq hN h hk k (v + 1) (by omega)]
    by_cases q : kp (mS N v) ∧ ¬ cl (mS N v) = mS N v
    · rw [if_pos q, if_pos (e.mpr q)]
    · rw [if_neg q, if_neg (fun z => q (e.mp z))]
theorem b_kps {N A : Nat} (hN : N ≤ 16) {pr co pr' co' : Nat → Int32} (h : ∀ k, k < A → b_in N (pr k) ∧ b_in N (co k) ∧ pr' k = x_bw (pr k) N ∧ co' k = x_bw (co k) N) {s : Int32} (hs : b_in N s) : m_keeps pr' co' (x_bw s N) A ↔ m_keeps pr co s A := by
  unfold m_keeps
  refine forall_congr' (fun k => forall_congr' (fun hk => ?_))
  obtain ⟨a, b, c, d⟩ := h k hk
  rw [c, d, b_sub hN a hs, b_sub hN b hs]
