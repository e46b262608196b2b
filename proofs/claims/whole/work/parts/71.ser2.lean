/-! Rows of finds: by places, by mates, the one that is drawn -/
/-- how many of the set stand below -/
def s_rk (s : Nat → Bool) : Nat → Nat
  | 0 => 0
  | f + 1 => s_rk s f + (if s f = true then 1 else 0)
theorem s_rk_mono {s : Nat → Bool} {f : Nat} : ∀ {F : Nat}, f ≤ F → s_rk s f ≤ s_rk s F
  | 0, h => by rw [show f = 0 by omega]; exact Nat.le_refl _
  | F + 1, h => by
    by_cases e : f = F + 1
    · subst e; exact Nat.le_refl _
    · have := s_rk_mono (s := s) (f := f) (F := F) (by omega)
      rw [s_rk]
      omega
theorem s_rk_lt {s : Nat → Bool} {f F : Nat} (h : f < F) (hs : s f = true) : s_rk s f < s_rk s F := by
  have := s_rk_mono (s := s) (f := f + 1) (F := F) (by omega)
  rw [s_rk, if_pos hs] at this
  omega
theorem s_rk_at {s : Nat → Bool} {p : Nat} : ∀ {F : Nat}, p < s_rk s F → ∃ f, f < F ∧ s f = true ∧ s_rk s f = p
  | 0, h => by rw [s_rk] at h; omega
  | F + 1, h => by
    rw [s_rk] at h
    by_cases e : p < s_rk s F
    · obtain ⟨f, h1, h2⟩ := s_rk_at e
      exact ⟨f, by omega, h2⟩
    · by_cases hs : s F = true
      · rw [if_pos hs] at h
        exact ⟨F, by omega, hs, by omega⟩
      · rw [if_neg hs] at h
        omega
/-- the finds of a set in their order -/
def s_fs (F : Nat) (s : Nat → Bool) (fs : Nat → Nat) : Prop := ∀ f, f < F → s f = true → fs (s_rk s f) = f
theorem s_fs.at {F : Nat} {s : Nat → Bool} {fs : Nat → Nat} (h : s_fs F s fs) {p : Nat} (hp : p < s_rk s F) : fs p < F ∧ s (fs p) = true ∧ s_rk s (fs p) = p := by
  obtain ⟨f, h1, h2, h3⟩ := s_rk_at hp
  have := h f h1 h2
  rw [h3] at this
  rw [this]
  exact ⟨h1, h2, h3⟩
theorem s_fs.inj {F : Nat} {s : Nat → Bool} {fs : Nat → Nat} (h : s_fs F s fs) {p q : Nat} (hp : p < s_rk s F) (hq : q < s_rk s F) (e : fs p = fs q) : p = q := by
  have a := (h.at hp).2.2
  have b := (h.at hq).2.2
  rw [e] at a
  omega
theorem s_sum_rk {F : Nat} {s : Nat → Bool} {fs g : Nat → Nat} (h : s_fs F s fs) (hg : ∀ f, f < F → s f = false → g f = 0) : ∀ f, f ≤ F → s_sum g f = s_sum (fun p => g (fs p)) (s_rk s f)
  | 0, _ => rfl
  | f + 1, hf => by
    rw [s_sum, s_rk, s_sum_rk h hg f (by omega)]
    by_cases e : s f = true
    · rw [if_pos e, s_sum, h f (by omega) e]
    · rw [if_neg e, hg f (by omega) (by simpa using e)]
      rfl
theorem s_bd_rk {F : Nat} {s b u : Nat → Bool} {fs : Nat → Nat} (h : s_fs F s fs) (hb : ∀ f, f < F → b f = true → s f = true) : s_bd F b u ↔ s_bd (s_rk s F) (fun p => b (fs p)) (fun p => u (fs p)) := by
  unfold s_bd
  constructor
  · rintro ⟨⟨p, h1, h2, h3⟩, ⟨q, h4, h5, h6⟩⟩
    have e1 := h p h1 (hb p h1 h2)
    have e2 := h q h4 (hb q h4 h5)
    exact ⟨⟨_, s_rk_lt h1 (hb p h1 h2), by dsimp only; rw [e1]; exact h2, by dsimp only; rw [e1]; exact h3⟩, ⟨_, s_rk_lt h4 (hb q h4 h5), by dsimp only; rw [e2]; exact h5, by dsimp only; rw [e2]; exact h6⟩⟩
  · rintro ⟨⟨p, h1, h2, h3⟩, ⟨q, h4, h5, h6⟩⟩
    exact ⟨⟨_, (h.at h1).1, h2, h3⟩, ⟨_, (h.at h4).1, h5, h6⟩⟩
/-- the blocks by places -/
def s_Bp (fs : Nat → Nat) (B : List (Nat → Bool)) : List (Nat → Bool) := B.map (fun b p => b (fs p))
theorem s_op_rk {F : Nat} {s u : Nat → Bool} {fs : Nat → Nat} {B : List (Nat → Bool)} (h : s_fs F s fs) (hB : ∀ b ∈ B, ∀ f, f < F → b f = true → s f = true) (p : Nat) : s_op F B u (fs p) ↔ s_op (s_rk s F) (s_Bp fs B) (fun p => u (fs p)) p := by
  unfold s_op s_Bp
  constructor
  · rintro ⟨h1, h2⟩
    refine ⟨h1, fun c hc hd => ?_⟩
    obtain ⟨b, hb, rfl⟩ := List.mem_map.mp hc
    exact h2 b hb ((s_bd_rk h (hB b hb)).mpr hd)
  · rintro ⟨h1, h2⟩
    refine ⟨h1, fun b hb hd => h2 _ (List.mem_map.mpr ⟨b, hb, rfl⟩) ((s_bd_rk h (hB b hb)).mp hd)⟩
theorem s_C_rk {F : Nat} {s : Nat → Bool} {fs : Nat → Nat} {B : List (Nat → Bool)} (h : s_fs F s fs) (hB : ∀ b ∈ B, ∀ f, f < F → b f = true → s f = true) : ∀ (k : Nat) (u : Nat → Bool), (∀ f, f < F → u f = false → s f = true) → s_C F B k u = s_C (s_rk s F) (s_Bp fs B) k (fun p => u (fs p))
  | 0, _, _ => rfl
  | k + 1, u, hu => by
    rw [s_C, s_C, s_sum_rk h (fun f hf e => if_neg (fun q => by have := hu f hf q.1; rw [e] at this; cases this)) F (Nat.le_refl _)]
    refine s_sum_congr (fun p hp => ?_)
    by_cases ho : s_op F B u (fs p)
    · rw [if_pos ho, if_pos ((s_op_rk h hB p).mp ho), s_C_rk h hB k _ (fun f hf q => by
        unfold s_add at q
        by_cases e : f = fs p
        · rw [if_pos e] at q; cases q
        · rw [if_neg e] at q; exact hu f hf q)]
      refine s_C_congr (fun _ _ _ => Iff.rfl) k _ _ (fun q hq => ?_)
      unfold s_add
      by_cases e : q = p
      · rw [if_pos e, if_pos (by rw [e])]
      · rw [if_neg e, if_neg (fun z => e (h.inj hq hp z))]
    · rw [if_neg ho, if_neg (fun q => ho ((s_op_rk h hB p).mpr q))]
theorem s_n_rk {F : Nat} {s u : Nat → Bool} {fs : Nat → Nat} (h : s_fs F s fs) (hu : ∀ f, f < F → u f = false → s f = true) : s_n u F = s_n (fun p => u (fs p)) (s_rk s F) := by
  rw [s_n_sum, s_n_sum]
  exact s_sum_rk h (fun f hf e => if_pos (by
    cases q : u f with
    | true => rfl
    | false => have := hu f hf q; rw [e] at this; cases this)) F (Nat.le_refl _)
theorem s_V_rk {F : Nat} {s u : Nat → Bool} {fs : Nat → Nat} {B : List (Nat → Bool)} (h : s_fs F s fs) (hB : ∀ b ∈ B, ∀ f, f < F → b f = true → s f = true) (hu : ∀ f, f < F → u f = false → s f = true) : s_V F B u = s_V (s_rk s F) (s_Bp fs B) (fun p => u (fs p)) := by
  rw [s_V, s_V, s_n_rk h hu]
  exact s_C_rk h hB _ _ hu
/-- how many rows go on with p -/
noncomputable def s_g (n : Nat) (B : List (Nat → Bool)) (u : Nat → Bool) (p : Nat) : Nat := @ite _ (s_op n B u p) (Classical.propDecidable _) (s_V n B (s_add u p)) 0
theorem s_V_g {n : Nat} {B : List (Nat → Bool)} {u : Nat → Bool} (h : s_n u n ≠ 0) : s_V n B u = s_sum (s_g n B u) n := s_V_s h
theorem s_g_y {n : Nat} {B : List (Nat → Bool)} {u : Nat → Bool} {p : Nat} (h : s_op n B u p) : s_g n B u p = s_V n B (s_add u p) := if_pos h
theorem s_g_n {n : Nat} {B : List (Nat → Bool)} {u : Nat → Bool} {p : Nat} (h : ¬ s_op n B u p) : s_g n B u p = 0 := if_neg h
/-- the one that is drawn -/
def s_pk (g : Nat → Nat) (left : Nat) : Nat → Nat → Nat
  | 0, p => p
  | k + 1, p => if left < s_sum g (p + 1) then p else s_pk g left k (p + 1)
theorem s_sum_mono {g : Nat → Nat} {a : Nat} : ∀ {b : Nat}, a ≤ b → s_sum g a ≤ s_sum g b
  | 0, h => by rw [show a = 0 by omega]; exact Nat.le_refl _
  | b + 1, h => by
    by_cases e : a = b + 1
    · subst e; exact Nat.le_refl _
    · have := s_sum_mono (g := g) (a := a) (b := b) (by omega)
      rw [s_sum]
      omega
theorem s_pk_ok {g : Nat → Nat} {left : Nat} : ∀ (k p : Nat), s_sum g p ≤ left → left < s_sum g (p + k) → s_pk g left k p < p + k ∧ s_sum g (s_pk g left k p) ≤ left ∧ left < s_sum g (s_pk g left k p + 1)
  | 0, p, h1, h2 => by rw [Nat.add_zero] at h2; omega
  | k + 1, p, h1, h2 => by
    rw [s_pk]
    by_cases h : left < s_sum g (p + 1)
    · rw [if_pos h]
      exact ⟨by omega, h1, h⟩
    · rw [if_neg h]
      obtain ⟨a, b⟩ := s_pk_ok (g := g) (left := left) k (p + 1) (by omega) (by rw [show p + 1 + k = p + (k + 1) by omega]; exact h2)
      exact ⟨by omega, b⟩
theorem s_pk_un {g : Nat → Nat} {left p n : Nat} (hp : p < n) (h1 : s_sum g p ≤ left) (h2 : left < s_sum g (p + 1)) : s_pk g left n 0 = p := by
  obtain ⟨a, b, c⟩ := s_pk_ok (g := g) (left := left) n 0 (Nat.zero_le _) (by rw [Nat.zero_add]; exact Nat.lt_of_lt_of_le h2 (s_sum_mono (by omega)))
  rcases Nat.lt_trichotomy (s_pk g left n 0) p with q | q | q
  · have := s_sum_mono (g := g) (a := s_pk g left n 0 + 1) (b := p) (by omega)
    omega
  · exact q
  · have := s_sum_mono (g := g) (a := p + 1) (b := s_pk g left n 0) (by omega)
    omega
noncomputable def s_p (n : Nat) (B : List (Nat → Bool)) (u : Nat → Bool) (left : Nat) : Nat := s_pk (s_g n B u) left n 0
noncomputable def s_at (n : Nat) (B : List (Nat → Bool)) : Nat → (Nat → Bool) → Nat → Nat
  | 0, u, left => s_p n B u left
  | i + 1, u, left => s_at n B i (s_add u (s_p n B u left)) (left - s_sum (s_g n B u) (s_p n B u left))
theorem s_n_pos {u : Nat → Bool} {n : Nat} (h : ∃ p, p < n ∧ u p = false) : s_n u n ≠ 0 := by
  obtain ⟨p, hp, hu⟩ := h
  intro e
  have := s_n_0 e p hp
  rw [hu] at this
  cases this
/-- what is drawn may stand there, and goes on -/
theorem s_p_ok {n : Nat} {B : List (Nat → Bool)} {u : Nat → Bool} {left : Nat} (h : left < s_V n B u) (hn : s_n u n ≠ 0) : s_p n B u left < n ∧ s_op n B u (s_p n B u left) ∧ s_sum (s_g n B u) (s_p n B u left) ≤ left ∧ left - s_sum (s_g n B u) (s_p n B u left) < s_V n B (s_add u (s_p n B u left)) := by
  rw [s_V_g hn] at h
  obtain ⟨a, b, c⟩ := s_pk_ok (g := s_g n B u) (left := left) n 0 (Nat.zero_le _) (by rw [Nat.zero_add]; exact h)
  change s_p n B u left < 0 + n at a
  change s_sum _ (s_p n B u left) ≤ left at b
  change left < s_sum _ (s_p n B u left + 1) at c
  rw [s_sum] at c
  have ho : s_op n B u (s_p n B u left) := Classical.byContradiction (fun q => by rw [s_g_n q] at c; omega)
  rw [s_g_y ho] at c
  exact ⟨by omega, ho, b, by omega⟩
theorem s_p_rk {F : Nat} {s u : Nat → Bool} {fs : Nat → Nat} {B : List (Nat → Bool)} (h : s_fs F s fs) (hB : ∀ b ∈ B, ∀ f, f < F → b f = true → s f = true) (hu : ∀ f, f < F → u f = false → s f = true) {left : Nat} (hl : left < s_V F B u) (hn : s_n u F ≠ 0) : s_p (s_rk s F) (s_Bp fs B) (fun p => u (fs p)) left = s_rk s (s_p F B u left) ∧ s (s_p F B u left) = true ∧ s_sum (s_g (s_rk s F) (s_Bp fs B) (fun p => u (fs p))) (s_rk s (s_p F B u left)) = s_sum (s_g F B u) (s_p F B u left) := by
  obtain ⟨a, b, c, d⟩ := s_p_ok hl hn
  have hs := hu _ a b.1
  have eg : ∀ p, p < s_rk s F → s_g F B u (fs p) = s_g (s_rk s F) (s_Bp fs B) (fun p => u (fs p)) p := fun p hp => by
    by_cases ho : s_op F B u (fs p)
    · rw [s_g_y ho, s_g_y ((s_op_rk h hB p).mp ho), s_V_rk h hB (fun f hf q => by
        unfold s_add at q
        by_cases e : f = fs p
        · rw [if_pos e] at q; cases q
        · rw [if_neg e] at q; exact hu f hf q)]
      refine s_V_congr (fun _ _ _ => Iff.rfl) (fun q hq => ?_)
      unfold s_add
      by_cases e : q = p
      · rw [if_pos e, if_pos (by rw [e])]
      · rw [if_neg e, if_neg (fun z => e (h.inj hq hp z))]
    · rw [s_g_n ho, s_g_n (fun q => ho ((s_op_rk h hB p).mpr q))]
  have es : ∀ f, f ≤ F → s_sum (s_g (s_rk s F) (s_Bp fs B) (fun p => u (fs p))) (s_rk s f) = s_sum (s_g F B u) f := fun f hf => by
    rw [s_sum_rk h (fun f hf e => s_g_n (fun q => by have := hu f hf q.1; rw [e] at this; cases this)) f hf]
    exact s_sum_congr (fun p hp => (eg p (by have := s_rk_mono (s := s) hf; omega)).symm)
  refine ⟨s_pk_un (s_rk_lt a hs) (by rw [es _ (by omega)]; exact c) ?_, hs, es _ (by omega)⟩
  have e1 := es (s_p F B u left + 1) (by omega)
  rw [s_rk, if_pos hs] at e1
  rw [e1, s_sum, s_g_y b]
  omega
theorem s_at_congr {n : Nat} {B B' : List (Nat → Bool)} (hB : ∀ u p, p < n → (s_op n B u p ↔ s_op n B' u p)) : ∀ (i : Nat) (u v : Nat → Bool) (left : Nat), (∀ p, p < n → u p = v p) → left < s_V n B u → i < s_n u n → s_at n B i u left = s_at n B' i v left := by
  have eg : ∀ (u v : Nat → Bool), (∀ p, p < n → u p = v p) → ∀ p, p < n → s_g n B u p = s_g n B' v p := fun u v h p hp => by
    have ho : s_op n B u p ↔ s_op n B' v p := by
      rw [hB u p hp]
      unfold s_op
      rw [h p hp]
      constructor
      · rintro ⟨a, c⟩
        exact ⟨a, fun b hb hd => c b hb ((s_bd_congr h).mpr hd)⟩
      · rintro ⟨a, c⟩
        exact ⟨a, fun b hb hd => c b hb ((s_bd_congr h).mp hd)⟩
    by_cases h1 : s_op n B u p
    · rw [s_g_y h1, s_g_y (ho.mp h1)]
      exact s_V_congr hB (fun q hq => by unfold s_add; rw [h q hq])
    · rw [s_g_n h1, s_g_n (fun q => h1 (ho.mpr q))]
  have ep : ∀ (u v : Nat → Bool) (left : Nat), (∀ p, p < n → u p = v p) → left < s_V n B u → s_n u n ≠ 0 → s_p n B u left = s_p n B' v left ∧ s_sum (s_g n B u) (s_p n B u left) = s_sum (s_g n B' v) (s_p n B u left) := fun u v left h hl hn => by
    obtain ⟨a, b, c, d⟩ := s_p_ok hl hn
    have e1 : s_sum (s_g n B u) (s_p n B u left) = s_sum (s_g n B' v) (s_p n B u left) := s_sum_congr (fun p hp => eg u v h p (by omega))
    refine ⟨(s_pk_un a (by rw [← e1]; exact c) ?_).symm, e1⟩
    rw [s_sum, ← e1, ← eg u v h _ a, s_g_y b]
    omega
  intro i
  induction i with
  | zero =>
    intro u v left h hl hi
    rw [s_at, s_at]
    exact (ep u v left h hl (by omega)).1
  | succ i ih =>
    intro u v left h hl hi
    obtain ⟨a, b, c, d⟩ := s_p_ok hl (show s_n u n ≠ 0 by omega)
    obtain ⟨e1, e2⟩ := ep u v left h hl (by omega)
    rw [s_at, s_at, ← e1, ← e2]
    exact ih _ _ _ (fun q hq => by unfold s_add; rw [h q hq]) d (by have := s_n_add a b.1; omega)
theorem s_at_rk {F : Nat} {s : Nat → Bool} {fs : Nat → Nat} {B : List (Nat → Bool)} (h : s_fs F s fs) (hB : ∀ b ∈ B, ∀ f, f < F → b f = true → s f = true) : ∀ (i : Nat) (u : Nat → Bool) (left : Nat), (∀ f, f < F → u f = false → s f = true) → left < s_V F B u → i < s_n u F → fs (s_at (s_rk s F) (s_Bp fs B) i (fun p => u (fs p)) left) = s_at F B i u left
  | 0, u, left, hu, hl, hi => by
    obtain ⟨a, b, c, d⟩ := s_p_ok hl (show s_n u F ≠ 0 by omega)
    obtain ⟨e1, e2, e3⟩ := s_p_rk h hB hu hl (by omega)
    rw [s_at, s_at, e1, h _ a e2]
  | i + 1, u, left, hu, hl, hi => by
    obtain ⟨a, b, c, d⟩ := s_p_ok hl (show s_n u F ≠ 0 by omega)
    obtain ⟨e1, e2, e3⟩ := s_p_rk h hB hu hl (by omega)
    have hu' : ∀ f, f < F → s_add u (s_p F B u left) f = false → s f = true := fun f hf q => by
      unfold s_add at q
      by_cases e : f = s_p F B u left
      · rw [if_pos e] at q; cases q
      · rw [if_neg e] at q; exact hu f hf q
    have hn := s_n_add a b.1
    rw [s_at, s_at, ← s_at_rk h hB i _ _ hu' d (by omega), e1, e3]
    refine congrArg fs (s_at_congr (fun _ _ _ => Iff.rfl) i _ _ _ (fun q hq => ?_) ?_ ?_)
    · unfold s_add
      by_cases e : q = s_rk s (s_p F B u left)
      · rw [if_pos e, if_pos (by rw [e, h _ a e2])]
      · rw [if_neg e, if_neg (fun z => e (h.inj hq (s_rk_lt a e2) (by rw [h _ a e2]; exact z)))]
    · rw [s_V_rk h hB hu'] at d
      refine Nat.lt_of_lt_of_eq d (s_V_congr (fun _ _ _ => Iff.rfl) (fun q hq => ?_))
      unfold s_add
      by_cases e : q = s_rk s (s_p F B u left)
      · rw [if_pos e, if_pos (by rw [e, h _ a e2])]
      · rw [if_neg e, if_neg (fun z => e (h.inj hq (s_rk_lt a e2) (by rw [h _ a e2]; exact z)))]
    · have h1 := s_n_rk h hu
      have h2 : (fun p => u (fs p)) (s_rk s (s_p F B u left)) = false := by show u (fs _) = false; rw [h _ a e2]; exact b.1
      have := s_n_add (u := fun p => u (fs p)) (s_rk_lt a e2) h2
      omega
/-- blocks that bind nothing -/
theorem s_op_blk {n : Nat} {B B' : List (Nat → Bool)} (h1 : ∀ b ∈ B', ∃ c ∈ B, ∀ p, p < n → b p = c p) (h2 : ∀ c ∈ B, (∃ b ∈ B', ∀ p, p < n → b p = c p) ∨ (∀ p q, p < n → q < n → c p = true → c q = true → p = q) ∨ ∀ p, p < n → c p = true) (u : Nat → Bool) (p : Nat) (hp : p < n) : s_op n B u p ↔ s_op n B' u p := by
  have cg : ∀ {b c : Nat → Bool}, (∀ p, p < n → b p = c p) → s_bd n b u → s_bd n c u := fun e => by
    rintro ⟨⟨p, h1, h2, h3⟩, ⟨q, h4, h5, h6⟩⟩
    exact ⟨⟨p, h1, by rw [← e p h1]; exact h2, h3⟩, ⟨q, h4, by rw [← e q h4]; exact h5, h6⟩⟩
  constructor
  · rintro ⟨a, c⟩
    refine ⟨a, fun b hb hd => ?_⟩
    obtain ⟨d, hd1, hd2⟩ := h1 b hb
    rw [hd2 p hp]
    exact c d hd1 (cg hd2 hd)
  · rintro ⟨a, c⟩
    refine ⟨a, fun b hb hd => ?_⟩
    rcases h2 b hb with ⟨d, hd1, hd2⟩ | q | q
    · rw [← hd2 p hp]
      exact c d hd1 (cg (fun p hp => (hd2 p hp).symm) hd)
    · obtain ⟨⟨x, x1, x2, x3⟩, ⟨y, y1, y2, y3⟩⟩ := hd
      rw [q x y x1 y1 x2 y2, y3] at x3
      cases x3
    · exact q p hp
/-- alike but for mates -/
def s_ap : List (Nat × Nat) → (Nat → Bool) → Nat → Bool
  | [], u => u
  | x :: r, u => fun p => s_ap r u (s_sw x.1 x.2 p)
def s_E (n : Nat) (B : List (Nat → Bool)) (u v : Nat → Bool) : Prop := ∃ W : List (Nat × Nat), (∀ x ∈ W, x.1 < n ∧ x.2 < n ∧ s_mt B x.1 x.2) ∧ v = s_ap W u
theorem s_E.refl {n : Nat} {B : List (Nat → Bool)} (u : Nat → Bool) : s_E n B u u := ⟨[], by simp, rfl⟩
theorem s_E.step {n : Nat} {B : List (Nat → Bool)} {u v : Nat → Bool} {a b : Nat} (h : s_E n B u v) (ha : a < n) (hb : b < n) (hm : s_mt B a b) : s_E n B u (fun p => v (s_sw a b p)) := by
  obtain ⟨W, h1, rfl⟩ := h
  refine ⟨(a, b) :: W, fun x hx => ?_, rfl⟩
  rcases List.mem_cons.mp hx with e | e
  · subst e; exact ⟨ha, hb, hm⟩
  · exact h1 x e
theorem s_E.ind {n : Nat} {B : List (Nat → Bool)} {u v : Nat → Bool} {P : (Nat → Bool) → Prop} (h : s_E n B u v) (h0 : P u) (hs : ∀ (v : Nat → Bool) (a b : Nat), a < n → b < n → s_mt B a b → P v → P (fun p => v (s_sw a b p))) : P v := by
  obtain ⟨W, h1, rfl⟩ := h
  induction W with
  | nil => exact h0
  | cons x r ih =>
    obtain ⟨a1, a2, a3⟩ := h1 x (List.mem_cons_self ..)
    exact hs _ _ _ a1 a2 a3 (ih (fun y hy => h1 y (List.mem_cons_of_mem _ hy)))
theorem s_E.V {n : Nat} {B : List (Nat → Bool)} {u v : Nat → Bool} (h : s_E n B u v) : s_V n B v = s_V n B u :=
  h.ind (P := fun v => s_V n B v = s_V n B u) rfl (fun v a b ha hb hm ih => by rw [s_V_sw ha hb hm]; exact ih)
theorem s_mt_sw {B : List (Nat → Bool)} {a b p q : Nat} (hm : s_mt B a b) (h : s_mt B p q) : s_mt B p (s_sw a b q) := by
  intro c hc
  rw [h c hc]
  unfold s_sw
  by_cases h1 : q = a
  · rw [if_pos h1, h1, hm c hc]
  · by_cases h2 : q = b
    · rw [if_neg h1, if_pos h2, h2, hm c hc]
    · rw [if_neg h1, if_neg h2]
theorem s_sw_l {a b : Nat} : s_sw a b a = b := by simp [s_sw]
theorem s_E.ex {n : Nat} {B : List (Nat → Bool)} {u v : Nat → Bool} {p : Nat} (h : s_E n B u v) (hp : p < n) (hu : u p = false) : ∃ q, q < n ∧ s_mt B p q ∧ v q = false := by
  refine h.ind (P := fun v => ∃ q, q < n ∧ s_mt B p q ∧ v q = false) ⟨p, hp, fun _ _ => rfl, hu⟩ ?_
  rintro v a b ha hb hm ⟨q, h1, h2, h3⟩
  exact ⟨s_sw a b q, s_sw_lt ha hb h1, s_mt_sw hm h2, by show v (s_sw a b (s_sw a b q)) = false; rw [s_sw_sw]; exact h3⟩
theorem s_E.add {n : Nat} {B : List (Nat → Bool)} {u v : Nat → Bool} {p q : Nat} (h : s_E n B u v) (hp : p < n) (hu : u p = false) (hq : q < n) (hv : v q = false) (hm : s_mt B p q) : s_E n B (s_add u p) (s_add v q) := by
  refine h.ind (P := fun v => ∀ q, q < n → v q = false → s_mt B p q → s_E n B (s_add u p) (s_add v q)) ?_ ?_ q hq hv hm
  · intro q hq hv hm
    have : s_add u q = fun r => s_add u p (s_sw p q r) := by
      funext r
      unfold s_add s_sw
      by_cases h1 : r = p
      · subst h1
        by_cases h2 : r = q
        · subst h2; simp
        · simp [h2, Ne.symm h2, hv, hu]
      · by_cases h2 : r = q
        · subst h2; simp [h1]
        · simp [h1, h2]
    rw [this]
    exact s_E.step (s_E.refl _) hp hq hm
  · intro v a b ha hb hm ih q hq hv hpq
    have h2 := ih (s_sw a b q) (s_sw_lt ha hb hq) hv (s_mt_sw hm hpq)
    have : s_add (fun p => v (s_sw a b p)) q = fun r => s_add v (s_sw a b q) (s_sw a b r) := by
      funext r
      unfold s_add
      by_cases h1 : r = q
      · rw [if_pos h1, if_pos (by rw [h1])]
      · rw [if_neg h1, if_neg (fun z => h1 (by rw [← s_sw_sw a b r, z, s_sw_sw]))]
    rw [this]
    exact s_E.step h2 ha hb hm
