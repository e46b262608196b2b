/-! Crosses: words, runs, the word that is next -/
/-- words of all places -/
def c_P (n : Nat) (w : Nat → Nat) : Prop := (∀ i, i < n → w i < n) ∧ ∀ i j, i < n → j < n → w i = w j → i = j
/-- what a word has used -/
def c_u (w : Nat → Nat) : Nat → Nat → Bool
  | 0 => fun _ => false
  | d + 1 => s_add (c_u w d) (w d)
theorem c_u_iff {w : Nat → Nat} {p : Nat} : ∀ {d : Nat}, c_u w d p = true ↔ ∃ i, i < d ∧ w i = p
  | 0 => by simp [c_u]
  | d + 1 => by
    have ih := c_u_iff (w := w) (p := p) (d := d)
    unfold c_u s_add
    by_cases e : p = w d
    · rw [if_pos e]
      exact ⟨fun _ => ⟨d, by omega, e.symm⟩, fun _ => rfl⟩
    · rw [if_neg e, ih]
      constructor
      · rintro ⟨i, h1, h2⟩
        exact ⟨i, by omega, h2⟩
      · rintro ⟨i, h1, h2⟩
        refine ⟨i, ?_, h2⟩
        rcases Nat.lt_or_ge i d with q | q
        · exact q
        · rw [show i = d by omega] at h2; exact absurd h2.symm e
theorem c_u_free {n d : Nat} {w : Nat → Nat} (h : c_P n w) (hd : d < n) : c_u w d (w d) = false := by
  cases e : c_u w d (w d) with
  | false => rfl
  | true =>
    obtain ⟨i, h1, h2⟩ := c_u_iff.mp e
    have := h.2 i d (by omega) hd h2
    omega
theorem c_u_sum {n : Nat} {w : Nat → Nat} (h : c_P n w) (g : Nat → Nat) : ∀ d, d ≤ n → s_sum (fun x => g (w x)) d + s_sum (fun p => if c_u w d p = true then 0 else g p) n = s_sum g n
  | 0, _ => by simp [s_sum, c_u]
  | d + 1, hd => by
    have ih := c_u_sum h g d (by omega)
    have hf := c_u_free h (show d < n by omega)
    rw [s_sum_one (fun p => if c_u w d p = true then 0 else g p) (h.1 d (by omega))] at ih
    rw [s_sum]
    have e : s_sum (fun p => if c_u w (d + 1) p = true then 0 else g p) n = s_sum (fun p => if p = w d then 0 else if c_u w d p = true then 0 else g p) n := by
      refine s_sum_congr (fun p _ => ?_)
      rw [c_u]
      unfold s_add
      by_cases e : p = w d
      · simp [e]
      · simp [e]
    rw [e]
    simp only [hf] at ih
    simp at ih
    omega
theorem c_u_n {n : Nat} {w : Nat → Nat} (h : c_P n w) : ∀ d, d ≤ n → s_n (c_u w d) n = n - d
  | 0, _ => by
    have : ∀ m, s_n (c_u w 0) m = m := fun m => by
      induction m with
      | zero => rfl
      | succ m ih => rw [s_n, ih]; rfl
    rw [this]; rfl
  | d + 1, hd => by
    have ih := c_u_n h d (by omega)
    have := s_n_add (h.1 d (by omega)) (c_u_free h (show d < n by omega))
    rw [c_u]
    omega
/-- a word has every place -/
theorem c_P.sur {n : Nat} {w : Nat → Nat} (h : c_P n w) {p : Nat} (hp : p < n) : ∃ i, i < n ∧ w i = p :=
  c_u_iff.mp (s_n_0 (by rw [c_u_n h n (Nat.le_refl _)]; omega) p hp)
theorem c_P.sum {n : Nat} {w : Nat → Nat} (h : c_P n w) (g : Nat → Nat) : s_sum (fun x => g (w x)) n = s_sum g n := by
  have := c_u_sum h g n (Nat.le_refl _)
  have e : s_sum (fun p => if c_u w n p = true then 0 else g p) n = 0 := by
    have h0 : s_sum (fun p => if c_u w n p = true then 0 else g p) n = s_sum (fun _ => 0) n := s_sum_congr (fun p hp => if_pos (s_n_0 (by rw [c_u_n h n (Nat.le_refl _)]; omega) p hp))
    rw [h0]
    have : ∀ m, s_sum (fun _ => 0) m = 0 := fun m => by
      induction m with
      | zero => rfl
      | succ m ih => rw [s_sum, ih]
    exact this n
  omega
theorem s_rk_sum (b : Nat → Bool) : ∀ n, s_rk b n = s_sum (fun p => if b p = true then 1 else 0) n
  | 0 => rfl
  | n + 1 => by rw [s_rk, s_sum, s_rk_sum b n]
theorem c_P.rk {n : Nat} {w : Nat → Nat} (h : c_P n w) (b : Nat → Bool) : s_rk (fun x => b (w x)) n = s_rk b n := by
  rw [s_rk_sum, s_rk_sum]
  exact h.sum (fun p => if b p = true then 1 else 0)
/-- the run at the end, and the longest -/
def c_r (b : Nat → Bool) : Nat → Nat
  | 0 => 0
  | k + 1 => if b k = true then c_r b k + 1 else 0
def c_l (b : Nat → Bool) : Nat → Nat
  | 0 => 0
  | k + 1 => max (c_l b k) (c_r b (k + 1))
theorem c_r_congr {b b' : Nat → Bool} : ∀ {k : Nat}, (∀ j, j < k → b j = b' j) → c_r b k = c_r b' k
  | 0, _ => rfl
  | k + 1, h => by rw [c_r, c_r, h k (by omega), c_r_congr (fun j hj => h j (by omega))]
theorem c_l_congr {b b' : Nat → Bool} : ∀ {k : Nat}, (∀ j, j < k → b j = b' j) → c_l b k = c_l b' k
  | 0, _ => rfl
  | k + 1, h => by rw [c_l, c_l, c_r_congr h, c_l_congr (fun j hj => h j (by omega))]
theorem c_r_l (b : Nat → Bool) : ∀ k, c_r b k ≤ c_l b k
  | 0 => Nat.le_refl _
  | k + 1 => by rw [c_l]; exact Nat.le_max_right _ _
theorem c_r_rk (b : Nat → Bool) : ∀ k, c_r b k ≤ s_rk b k
  | 0 => Nat.le_refl _
  | k + 1 => by
    have := c_r_rk b k
    rw [c_r, s_rk]
    split
    · omega
    · omega
theorem c_l_rk (b : Nat → Bool) : ∀ k, c_l b k ≤ s_rk b k
  | 0 => Nat.le_refl _
  | k + 1 => by
    have h1 := c_l_rk b k
    have h2 := c_r_rk b (k + 1)
    have h3 := s_rk_mono (s := b) (show k ≤ k + 1 by omega)
    rw [c_l]
    omega
theorem c_r_seg {b : Nat → Bool} : ∀ {k : Nat}, c_r b k ≤ k ∧ ∀ j, k - c_r b k ≤ j → j < k → b j = true
  | 0 => ⟨Nat.le_refl _, fun j _ h => by omega⟩
  | k + 1 => by
    obtain ⟨h1, h2⟩ := c_r_seg (b := b) (k := k)
    rw [c_r]
    by_cases e : b k = true
    · rw [if_pos e]
      refine ⟨by omega, fun j a c => ?_⟩
      by_cases z : j = k
      · rw [z]; exact e
      · exact h2 j (by omega) (by omega)
    · rw [if_neg e]
      exact ⟨by omega, fun j a c => by omega⟩
theorem c_r_max {b : Nat → Bool} {x : Nat} : ∀ {k : Nat}, (∀ j, x ≤ j → j < k → b j = true) → k - x ≤ c_r b k
  | 0, _ => by omega
  | k + 1, h => by
    rcases Nat.lt_or_ge k x with q | q
    · omega
    · have := c_r_max (b := b) (x := x) (k := k) (fun j a c => h j a (by omega))
      rw [c_r, if_pos (h k q (by omega))]
      omega
theorem c_l_seg {b : Nat → Bool} : ∀ {k : Nat}, ∃ x, x + c_l b k ≤ k ∧ ∀ j, x ≤ j → j < x + c_l b k → b j = true
  | 0 => ⟨0, Nat.le_refl _, fun j _ h => by rw [c_l] at h; omega⟩
  | k + 1 => by
    obtain ⟨x, h1, h2⟩ := c_l_seg (b := b) (k := k)
    rw [c_l]
    rcases Nat.le_total (c_l b k) (c_r b (k + 1)) with q | q
    · rw [Nat.max_eq_right q]
      obtain ⟨h3, h4⟩ := c_r_seg (b := b) (k := k + 1)
      exact ⟨k + 1 - c_r b (k + 1), by omega, fun j a c => h4 j a (by omega)⟩
    · rw [Nat.max_eq_left q]
      exact ⟨x, by omega, h2⟩
theorem c_l_max {b : Nat → Bool} {x len : Nat} : ∀ {k : Nat}, x + len ≤ k → (∀ j, x ≤ j → j < x + len → b j = true) → len ≤ c_l b k
  | 0, h, _ => by omega
  | k + 1, h, hb => by
    rw [c_l]
    by_cases e : x + len ≤ k
    · exact Nat.le_trans (c_l_max e hb) (Nat.le_max_left _ _)
    · have := c_r_max (b := b) (x := x) (k := k + 1) (fun j a c => hb j a (by omega))
      exact Nat.le_trans (by omega) (Nat.le_max_right _ _)
theorem c_l_rev1 (b : Nat → Bool) (k : Nat) : c_l (fun i => b (k - 1 - i)) k ≤ c_l b k := by
  obtain ⟨x, h1, h2⟩ := c_l_seg (b := fun i => b (k - 1 - i)) (k := k)
  refine c_l_max (x := k - (x + c_l (fun i => b (k - 1 - i)) k)) (by omega) (fun j a c => ?_)
  have := h2 (k - 1 - j) (by omega) (by omega)
  rw [show k - 1 - (k - 1 - j) = j by omega] at this
  exact this
theorem c_l_rev (b : Nat → Bool) (k : Nat) : c_l (fun i => b (k - 1 - i)) k = c_l b k := by
  refine Nat.le_antisymm (c_l_rev1 b k) ?_
  have := c_l_rev1 (fun i => b (k - 1 - i)) k
  rw [c_l_congr (b := fun i => b (k - 1 - (k - 1 - i))) (b' := b) (fun j hj => by rw [show k - 1 - (k - 1 - j) = j by omega])] at this
  exact this
theorem c_l_few {b : Nat → Bool} {k : Nat} (h : s_rk b k ≤ 1) : c_l b k = s_rk b k := by
  have h1 := c_l_rk b k
  by_cases e : s_rk b k = 0
  · omega
  · obtain ⟨f, h2, h3, h4⟩ := s_rk_at (s := b) (p := 0) (F := k) (by omega)
    have := c_l_max (b := b) (x := f) (len := 1) (k := k) (by omega) (fun j a c => by rw [show j = f by omega]; exact h3)
    omega
theorem c_l_all {b : Nat → Bool} {k : Nat} (h : ∀ j, j < k → b j = true) : c_l b k = k ∧ s_rk b k = k := by
  have h1 := c_l_max (b := b) (x := 0) (len := k) (k := k) (by omega) (fun j _ c => h j (by omega))
  have h2 := c_l_rk b k
  have h3 : s_rk b k ≤ k := by
    have : ∀ m, s_rk b m ≤ m := fun m => by
      induction m with
      | zero => exact Nat.le_refl _
      | succ m ih => rw [s_rk]; split <;> omega
    exact this k
  omega
/-- a word as a number -/
def c_v (w : Nat → Nat) : Nat → Nat
  | 0 => 0
  | k + 1 => c_v w k * 16 + w k
theorem c_v_congr {v w : Nat → Nat} : ∀ {n : Nat}, (∀ j, j < n → v j = w j) → c_v v n = c_v w n
  | 0, _ => rfl
  | n + 1, h => by rw [c_v, c_v, c_v_congr (fun j hj => h j (by omega)), h n (by omega)]
theorem c_v_lt {v w : Nat → Nat} {i : Nat} : ∀ {n : Nat}, i < n → (∀ j, j < n → v j < 16 ∧ w j < 16) → (∀ j, j < i → v j = w j) → v i < w i → c_v v n < c_v w n
  | 0, h, _, _, _ => by omega
  | n + 1, h, hd, he, hl => by
    obtain ⟨d1, d2⟩ := hd n (by omega)
    rw [c_v, c_v]
    by_cases e : i = n
    · subst e
      rw [c_v_congr he]
      omega
    · have := c_v_lt (n := n) (by omega) (fun j hj => hd j (by omega)) he hl
      omega
theorem c_fd (v w : Nat → Nat) : ∀ n, (∀ j, j < n → v j = w j) ∨ ∃ i, i < n ∧ (∀ j, j < i → v j = w j) ∧ v i ≠ w i
  | 0 => Or.inl (fun j h => by omega)
  | n + 1 => by
    rcases c_fd v w n with h | ⟨i, h1, h2⟩
    · by_cases e : v n = w n
      · left
        intro j hj
        by_cases z : j = n
        · rw [z]; exact e
        · exact h j (by omega)
      · exact Or.inr ⟨n, by omega, h, e⟩
    · exact Or.inr ⟨i, by omega, h2⟩
theorem c_v_fd {v w : Nat → Nat} {n : Nat} (hd : ∀ j, j < n → v j < 16 ∧ w j < 16) (h : c_v v n < c_v w n) : ∃ i, i < n ∧ (∀ j, j < i → v j = w j) ∧ v i < w i := by
  rcases c_fd v w n with e | ⟨i, h1, h2, h3⟩
  · rw [c_v_congr e] at h; omega
  · refine ⟨i, h1, h2, ?_⟩
    rcases Nat.lt_or_ge (v i) (w i) with q | q
    · exact q
    · have := c_v_lt (v := w) (w := v) h1 (fun j hj => ⟨(hd j hj).2, (hd j hj).1⟩) (fun j hj => (h2 j hj).symm) (by omega)
      omega
theorem c_v_eq {v w : Nat → Nat} {n : Nat} (hd : ∀ j, j < n → v j < 16 ∧ w j < 16) (h : c_v v n = c_v w n) : ∀ j, j < n → v j = w j := by
  rcases c_fd v w n with e | ⟨i, h1, h2, h3⟩
  · exact e
  · rcases Nat.lt_or_ge (v i) (w i) with q | q
    · have := c_v_lt h1 hd h2 q
      omega
    · have := c_v_lt (v := w) (w := v) h1 (fun j hj => ⟨(hd j hj).2, (hd j hj).1⟩) (fun j hj => (h2 j hj).symm) (by omega)
      omega
theorem c_v_bd {w : Nat → Nat} : ∀ {n : Nat}, (∀ j, j < n → w j < 16) → c_v w n < 16 ^ n
  | 0, _ => by simp [c_v]
  | n + 1, h => by
    have := c_v_bd (n := n) (fun j hj => h j (by omega))
    have h2 := h n (by omega)
    rw [c_v, Nat.pow_succ]
    omega
theorem c_P.dg {n : Nat} {v w : Nat → Nat} (hv : c_P n v) (hw : c_P n w) (hn : n ≤ 16) : ∀ j, j < n → v j < 16 ∧ w j < 16 := fun j hj => by
  have := hv.1 j hj
  have := hw.1 j hj
  omega
theorem c_P.sw {n a b : Nat} {w : Nat → Nat} (h : c_P n w) (ha : a < n) (hb : b < n) : c_P n (fun i => w (s_sw a b i)) := by
  refine ⟨fun i hi => h.1 _ (s_sw_lt ha hb hi), fun i j hi hj e => ?_⟩
  have := h.2 _ _ (s_sw_lt ha hb hi) (s_sw_lt ha hb hj) e
  rw [← s_sw_sw a b i, this, s_sw_sw]
/-- the next word -/
def c_nx (w : Nat → Nat) (n k o : Nat) : Nat → Nat := fun i => if i ≤ k then w (s_sw k o i) else w (s_sw k o (n + k - i))
theorem c_nx_P {n k o : Nat} {w : Nat → Nat} (h : c_P n w) (hk : k < n) (ho : o < n) : c_P n (c_nx w n k o) := by
  have h1 := h.sw hk ho
  refine ⟨fun i hi => ?_, fun i j hi hj e => ?_⟩
  · unfold c_nx
    split
    · exact h1.1 i hi
    · exact h1.1 (n + k - i) (by omega)
  · unfold c_nx at e
    by_cases ei : i ≤ k
    · by_cases ej : j ≤ k
      · rw [if_pos ei, if_pos ej] at e
        exact h1.2 i j hi hj e
      · rw [if_pos ei, if_neg ej] at e
        have := h1.2 i (n + k - j) hi (by omega) e
        omega
    · by_cases ej : j ≤ k
      · rw [if_neg ei, if_pos ej] at e
        have := h1.2 (n + k - i) j (by omega) hj e
        omega
      · rw [if_neg ei, if_neg ej] at e
        have := h1.2 (n + k - i) (n + k - j) (by omega) (by omega) e
        omega
/-- the tail falls, the last of it above w k is at o -/
def c_tl (w : Nat → Nat) (n k o : Nat) : Prop := k + 1 < n ∧ k < o ∧ o < n ∧ (∀ i j, k < i → i < j → j < n → w j < w i) ∧ w k < w o ∧ ∀ j, o < j → j < n → w j < w k
theorem c_nx_gt {n k o : Nat} {w : Nat → Nat} (h : c_P n w) (hn : n ≤ 16) (ht : c_tl w n k o) : c_v w n < c_v (c_nx w n k o) n := by
  obtain ⟨t1, t2, t3, t4, t5, t6⟩ := ht
  refine c_v_lt (i := k) (by omega) (h.dg (c_nx_P h (by omega) t3) hn) (fun j hj => ?_) ?_
  · unfold c_nx s_sw
    rw [if_pos (by omega), if_neg (by omega), if_neg (by omega)]
  · unfold c_nx
    rw [if_pos (Nat.le_refl _), s_sw_l]
    exact t5
theorem c_nx_up {n k o : Nat} {w : Nat → Nat} (ht : c_tl w n k o) {i j : Nat} (hi : k < i) (hij : i < j) (hj : j < n) : c_nx w n k o i < c_nx w n k o j := by
  obtain ⟨t1, t2, t3, t4, t5, t6⟩ := ht
  have key : ∀ a b, k < a → a < b → b < n → w (s_sw k o b) < w (s_sw k o a) := by
    intro a b ha hab hb
    unfold s_sw
    rw [if_neg (show ¬ b = k by omega), if_neg (show ¬ a = k by omega)]
    by_cases ea : a = o
    · rw [if_pos ea, if_neg (by omega)]
      exact t6 b (by omega) hb
    · rw [if_neg ea]
      by_cases eb : b = o
      · rw [if_pos eb]
        have := t4 a o ha (by omega) t3
        omega
      · rw [if_neg eb]
        exact t4 a b ha hab hb
  unfold c_nx
  rw [if_neg (by omega), if_neg (by omega)]
  exact key (n + k - j) (n + k - i) (by omega) (by omega) (by omega)
theorem c_P.at {n : Nat} {v w : Nat → Nat} (hv : c_P n v) (hw : c_P n w) {i : Nat} (hi : i < n) (he : ∀ j, j < i → v j = w j) : ∃ t, i ≤ t ∧ t < n ∧ v i = w t := by
  obtain ⟨t, h1, h2⟩ := hw.sur (hv.1 i hi)
  refine ⟨t, ?_, h1, h2.symm⟩
  rcases Nat.lt_or_ge t i with q | q
  · have := hv.2 t i (by omega) hi (by rw [he t q, h2])
    omega
  · exact q
theorem c_nx_lt {n k o : Nat} {v w : Nat → Nat} (h : c_P n w) (hn : n ≤ 16) (ht : c_tl w n k o) (hv : c_P n v) (hl : c_v w n < c_v v n) : c_v (c_nx w n k o) n ≤ c_v v n := by
  have hP := c_nx_P h (show k < n by have := ht.1; omega) ht.2.2.1
  have hup := fun {i j : Nat} => c_nx_up ht (i := i) (j := j)
  obtain ⟨t1, t2, t3, t4, t5, t6⟩ := ht
  have pre : ∀ j, j < k → c_nx w n k o j = w j := fun j hj => by
    unfold c_nx s_sw
    rw [if_pos (by omega), if_neg (by omega), if_neg (by omega)]
  have atk : c_nx w n k o k = w o := by
    unfold c_nx
    rw [if_pos (Nat.le_refl _), s_sw_l]
  rcases c_fd v (c_nx w n k o) n with e | ⟨i, h1, h2, h3⟩
  · rw [c_v_congr e]; exact Nat.le_refl _
  · refine Nat.le_of_lt (c_v_lt h1 (hP.dg hv hn) (fun j hj => (h2 j hj).symm) ?_)
    obtain ⟨d, d1, d2, d3⟩ := c_v_fd (h.dg hv hn) hl
    obtain ⟨t, q1, q2, q3⟩ := hv.at h d1 (fun j hj => (d2 j hj).symm)
    rcases Nat.lt_trichotomy i k with z | z | z
    · have hd : d = i := by
        rcases Nat.lt_trichotomy d i with y | y | y
        · have := h2 d y
          rw [pre d (by omega)] at this
          omega
        · exact y
        · exact absurd ((d2 i y).symm.trans (pre i z).symm) h3
      subst hd
      rw [pre d z]
      exact d3
    · subst z
      have hd : d = i := by
        rcases Nat.lt_trichotomy d i with y | y | y
        · have := h2 d y
          rw [pre d y] at this
          omega
        · exact y
        · have hdt : d ≠ t := fun e => by rw [e] at d3; rw [e] at q3; omega
          have := t4 d t y (by omega) q2
          omega
      subst hd
      rw [atk] at h3 ⊢
      have hto : t ≤ o := by
        rcases Nat.lt_or_ge o t with y | y
        · have := t6 t y q2
          omega
        · exact y
      have hne : t ≠ o := fun e => h3 (by rw [q3, e])
      have : d ≠ t := fun e => by rw [← e] at q3; omega
      have := t4 t o (by omega) (by omega) t3
      omega
    · obtain ⟨s, r1, r2, r3⟩ := hv.at hP h1 h2
      have hne : i ≠ s := fun e => h3 (by rw [r3, e])
      rw [r3]
      exact hup z (by omega) r2
/-- the last word falls -/
theorem c_last {n : Nat} {v w : Nat → Nat} (h : c_P n w) (hn : n ≤ 16) (hd : ∀ i, i + 1 < n → w (i + 1) < w i) (hv : c_P n v) : c_v v n ≤ c_v w n := by
  have hf : ∀ j i, i < j → j < n → w j < w i := by
    intro j
    induction j with
    | zero => intro i h; omega
    | succ j ih =>
      intro i hij hj
      have h1 := hd j hj
      by_cases e : i = j
      · rw [e]; exact h1
      · have := ih i (by omega) (by omega)
        omega
  rcases Nat.lt_or_ge (c_v w n) (c_v v n) with q | q
  · obtain ⟨d, d1, d2, d3⟩ := c_v_fd (h.dg hv hn) q
    obtain ⟨t, q1, q2, q3⟩ := hv.at h d1 (fun j hj => (d2 j hj).symm)
    by_cases e : d = t
    · rw [← e] at q3; omega
    · have := hf t d (by omega) q2
      omega
  · exact q
/-- the first word of all -/
theorem c_first {n : Nat} {v : Nat → Nat} (hn : n ≤ 16) (hv : c_P n v) : c_v (fun i => i) n ≤ c_v v n := by
  have hP : c_P n (fun i => i) := ⟨fun i h => h, fun i j _ _ e => e⟩
  rcases c_fd v (fun i => i) n with e | ⟨i, h1, h2, h3⟩
  · rw [c_v_congr e]; exact Nat.le_refl _
  · refine Nat.le_of_lt (c_v_lt h1 (hP.dg hv hn) (fun j hj => (h2 j hj).symm) ?_)
    obtain ⟨t, q1, q2, q3⟩ := hv.at hP h1 h2
    show i < v i
    have q4 : v i = t := q3
    have : i ≠ t := fun e => h3 (by rw [q4, e])
    omega
/-- what a word costs: so many blocks, each with what is not in its longest run -/
def c_C (h : Nat → Nat → Bool) (n m : Nat) (w : Nat → Nat) : Nat := s_sum (fun i => s_rk (fun x => h i (w x)) n - c_l (fun x => h i (w x)) n) m
theorem c_C_congr {h : Nat → Nat → Bool} {n m : Nat} {v w : Nat → Nat} (e : ∀ i x, i < m → x < n → h i (v x) = h i (w x)) : c_C h n m v = c_C h n m w := by
  unfold c_C
  refine s_sum_congr (fun i hi => ?_)
  rw [c_l_congr (fun x hx => e i x hi hx), s_rk_congr (fun x hx => e i x hi hx)]
/-- the first of the best -/
def c_B (C : (Nat → Nat) → Nat) (n : Nat) (w : Nat → Nat) : Prop := c_P n w ∧ (∀ v, c_P n v → C w ≤ C v) ∧ ∀ v, c_P n v → c_v v n < c_v w n → C w < C v
theorem c_B.un {C : (Nat → Nat) → Nat} {n : Nat} {v w : Nat → Nat} (hn : n ≤ 16) (hv : c_B C n v) (hw : c_B C n w) : C v = C w ∧ ∀ i, i < n → v i = w i := by
  have h1 := hv.2.1 w hw.1
  have h2 := hw.2.1 v hv.1
  refine ⟨by omega, c_v_eq (hv.1.dg hw.1 hn) ?_⟩
  rcases Nat.lt_trichotomy (c_v v n) (c_v w n) with q | q | q
  · have := hw.2.2 v hv.1 q
    omega
  · exact q
  · have := hv.2.2 w hw.1 q
    omega
/-- the best word has mates in order, and is less than itself backwards -/
theorem c_B.mates {h : Nat → Nat → Bool} {n m : Nat} {w : Nat → Nat} (hn : n ≤ 16) (hw : c_B (c_C h n m) n w) {i q : Nat} (hi : i < n) (hq : q < w i) (hm : ∀ k, k < m → h k q = h k (w i)) : ∃ j, j < i ∧ w j = q := by
  obtain ⟨t, h1, h2⟩ := hw.1.sur (show q < n by have := hw.1.1 i hi; omega)
  refine ⟨t, ?_, h2⟩
  rcases Nat.lt_or_ge t i with z | z
  · exact z
  · exfalso
    have ht : i ≠ t := fun e => by rw [e] at hq; omega
    have hP := hw.1.sw hi h1
    have e : c_C h n m (fun x => w (s_sw i t x)) = c_C h n m w := by
      refine c_C_congr (fun k x hk _ => ?_)
      unfold s_sw
      by_cases e1 : x = i
      · rw [if_pos e1, h2, e1]; exact hm k hk
      · by_cases e2 : x = t
        · rw [if_neg e1, if_pos e2, e2, h2]; exact (hm k hk).symm
        · rw [if_neg e1, if_neg e2]
    have := hw.2.2 _ hP (c_v_lt hi (hP.dg hw.1 hn) (fun j hj => by unfold s_sw; rw [if_neg (by omega), if_neg (by omega)]) (by show w (s_sw i t i) < w i; rw [s_sw_l, h2]; exact hq))
    omega
theorem c_B.back {h : Nat → Nat → Bool} {n m : Nat} {w : Nat → Nat} (hn : n ≤ 16) (hw : c_B (c_C h n m) n w) (h2 : 2 ≤ n) : w 0 < w (n - 1) := by
  rcases Nat.lt_trichotomy (w 0) (w (n - 1)) with z | z | z
  · exact z
  · have := hw.1.2 0 (n - 1) (by omega) (by omega) z
    omega
  · exfalso
    have hP : c_P n (fun i => w (n - 1 - i)) := ⟨fun i hi => hw.1.1 _ (by omega), fun i j hi hj e => by have := hw.1.2 _ _ (by omega) (by omega) e; omega⟩
    have e : c_C h n m (fun i => w (n - 1 - i)) = c_C h n m w := by
      unfold c_C
      refine s_sum_congr (fun i _ => ?_)
      have e1 := c_l_rev (fun x => h i (w x)) n
      have e2 := hP.rk (h i)
      have e3 := hw.1.rk (h i)
      rw [e2, e3]
      show _ - c_l (fun x => h i (w (n - 1 - x))) n = _
      rw [e1]
    have := hw.2.2 _ hP (c_v_lt (i := 0) (by omega) (hP.dg hw.1 hn) (fun j hj => by omega) (by show w (n - 1 - 0) < w 0; exact z))
    omega
