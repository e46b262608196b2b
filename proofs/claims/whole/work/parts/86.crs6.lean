/-! Crosses of the class: the search, as it is -/
/-- the begin of a word -/
def c_Pd (n d : Nat) (w : Nat → Nat) : Prop := (∀ i, i < d → w i < n) ∧ ∀ i j, i < d → j < d → w i = w j → i = j
theorem c_P.pd {n : Nat} {w : Nat → Nat} (h : c_P n w) {d : Nat} (hd : d ≤ n) : c_Pd n d w := ⟨fun i hi => h.1 i (by omega), fun i j hi hj e => h.2 i j (by omega) (by omega) e⟩
theorem c_Pd.P {n : Nat} {w : Nat → Nat} (h : c_Pd n n w) : c_P n w := h
theorem c_Pd.le {n d e : Nat} {w : Nat → Nat} (h : c_Pd n d w) (he : e ≤ d) : c_Pd n e w := ⟨fun i hi => h.1 i (by omega), fun i j hi hj e => h.2 i j (by omega) (by omega) e⟩
theorem c_Pd.sum {n d : Nat} {w : Nat → Nat} (h : c_Pd n d w) (g : Nat → Nat) : ∀ e, e ≤ d → s_sum (fun x => g (w x)) e + s_sum (fun p => if c_u w e p = true then 0 else g p) n = s_sum g n
  | 0, _ => by simp [s_sum, c_u]
  | e + 1, he => by
    have ih := h.sum g e (by omega)
    have hf : c_u w e (w e) = false := by
      cases z : c_u w e (w e) with
      | false => rfl
      | true =>
        obtain ⟨i, h1, h2⟩ := c_u_iff.mp z
        have := h.2 i e (by omega) (by omega) h2
        omega
    rw [s_sum_one (fun p => if c_u w e p = true then 0 else g p) (h.1 e (by omega))] at ih
    rw [s_sum]
    have ee : s_sum (fun p => if c_u w (e + 1) p = true then 0 else g p) n = s_sum (fun p => if p = w e then 0 else if c_u w e p = true then 0 else g p) n := by
      refine s_sum_congr (fun p _ => ?_)
      rw [c_u]
      unfold s_add
      by_cases z : p = w e
      · simp [z]
      · simp [z]
    rw [ee]
    simp only [hf] at ih
    simp at ih
    omega
theorem c_Pd.rk {n d : Nat} {w : Nat → Nat} (h : c_Pd n d w) (b : Nat → Bool) : s_rk (fun x => b (w x)) d ≤ s_rk b n := by
  have := h.sum (fun p => if b p = true then 1 else 0) d (Nat.le_refl _)
  rw [s_rk_sum, s_rk_sum]
  omega
/-- the levels of a word -/
def c_lA (h : Nat → Nat → Bool) (w : Nat → Nat) (d m : Nat) : Nat := c_l (fun x => h m (w x)) d
def c_lB (h : Nat → Nat → Bool) (w : Nat → Nat) (d m : Nat) : Nat := c_r (fun x => h m (w x)) d
def c_lT (h : Nat → Nat → Bool) (n : Nat) (w : Nat → Nat) (d m : Nat) : Nat := s_rk (h m) n - s_rk (fun x => h m (w x)) d
theorem c_lA_s (h : Nat → Nat → Bool) (w : Nat → Nat) (d : Nat) : c_A' (c_lA h w d) (c_lB h w d) (fun m => h m (w d)) = c_lA h w (d + 1) := by
  funext m
  unfold c_A' c_lA c_lB
  rw [c_l, c_r]
theorem c_lB_s (h : Nat → Nat → Bool) (w : Nat → Nat) (d : Nat) : c_B' (c_lB h w d) (fun m => h m (w d)) = c_lB h w (d + 1) := by
  funext m
  unfold c_B' c_lB
  rw [c_r]
theorem c_lT_s (h : Nat → Nat → Bool) (n : Nat) (w : Nat → Nat) (d : Nat) : c_T' (c_lT h n w d) (fun m => h m (w d)) = c_lT h n w (d + 1) := by
  funext m
  unfold c_T' c_lT
  rw [s_rk]
  by_cases e : h m (w d) = true
  · rw [if_pos e, if_pos e]; omega
  · rw [if_neg e, if_neg e]; rfl
theorem c_l_ext {h : Nat → Nat → Bool} {n d : Nat} {v w : Nat → Nat} (e : ∀ i, i < d → v i = w i) : c_lA h v d = c_lA h w d ∧ c_lB h v d = c_lB h w d ∧ c_lT h n v d = c_lT h n w d := by
  refine ⟨funext (fun m => ?_), funext (fun m => ?_), funext (fun m => ?_)⟩
  · exact c_l_congr (fun j hj => by rw [e j hj])
  · exact c_r_congr (fun j hj => by rw [e j hj])
  · unfold c_lT
    rw [s_rk_congr (b := fun x => h m (v x)) (b' := fun x => h m (w x)) (fun j hj => by rw [e j hj])]
/-- the least that a begin can come to -/
def c_bd (h : Nat → Nat → Bool) (n m : Nat) (w : Nat → Nat) (d : Nat) : Nat := c_sm (c_lA h w d) (c_lB h w d) (c_lT h n w d) (fun m => s_rk (h m) n) m
theorem c_lok {h : Nat → Nat → Bool} {n d m : Nat} {w : Nat → Nat} (hn : n ≤ 16) (hP : c_Pd n d w) : c_ok m (c_lA h w d) (c_lB h w d) (c_lT h n w d) (fun m => s_rk (h m) n) := fun k _ => by
  have h1 := hP.rk (h k)
  have h2 := c_l_rk (fun x => h k (w x)) d
  have h3 := c_r_rk (fun x => h k (w x)) d
  have h4 := s_rk_n (h k) n
  refine ⟨by show s_rk (h k) n ≤ 16; omega, by show c_l _ _ ≤ s_rk (h k) n; omega, ?_⟩
  show c_r _ _ + (s_rk (h k) n - s_rk _ _) ≤ s_rk (h k) n
  omega
theorem c_bd_up {h : Nat → Nat → Bool} {n d m : Nat} {w : Nat → Nat} (hP : c_Pd n (d + 1) w) : c_bd h n m w d ≤ c_bd h n m w (d + 1) := by
  unfold c_bd c_sm
  refine s_sum_le (fun k hk => ?_)
  have h1 := hP.rk (h k)
  have h3 := c_r_rk (fun x => h k (w x)) d
  have e1 : c_lT h n w (d + 1) k = c_T' (c_lT h n w d) (fun m => h m (w d)) k := by rw [c_lT_s]
  have e2 : c_lB h w (d + 1) k = c_B' (c_lB h w d) (fun m => h m (w d)) k := by rw [c_lB_s]
  have e3 : c_lA h w (d + 1) k = max (c_lA h w d k) (c_lB h w (d + 1) k) := by
    unfold c_lA c_lB
    rw [c_l]
  rw [e3, e1, e2]
  unfold c_T' c_B'
  rw [s_rk] at h1
  by_cases e : h k (w d) = true
  · have h5 : 1 ≤ c_lT h n w d k := by
      unfold c_lT
      rw [if_pos e] at h1
      omega
    rw [if_pos e, if_pos e]
    omega
  · rw [if_neg e, if_neg e]
    omega
theorem c_bd_le {h : Nat → Nat → Bool} {n m : Nat} {w : Nat → Nat} (hP : c_P n w) {d : Nat} : ∀ {e : Nat}, d ≤ e → e ≤ n → c_bd h n m w d ≤ c_bd h n m w e
  | 0, h1, _ => by rw [show d = 0 by omega]; exact Nat.le_refl _
  | e + 1, h1, h2 => by
    by_cases z : d = e + 1
    · rw [z]; exact Nat.le_refl _
    · exact Nat.le_trans (c_bd_le hP (e := e) (by omega) (by omega)) (c_bd_up (hP.pd h2))
theorem c_bd_C {h : Nat → Nat → Bool} {n m : Nat} {w : Nat → Nat} (hP : c_P n w) : c_bd h n m w n = c_C h n m w := by
  unfold c_bd c_sm c_C
  refine s_sum_congr (fun k hk => ?_)
  have h1 := hP.rk (h k)
  have h2 := c_r_l (fun x => h k (w x)) n
  unfold c_lA c_lB c_lT
  rw [h1]
  have : max (c_l (fun x => h k (w x)) n) (c_r (fun x => h k (w x)) n + (s_rk (h k) n - s_rk (h k) n)) = c_l (fun x => h k (w x)) n := by
    rw [Nat.sub_self, Nat.add_zero]
    exact Nat.max_eq_left h2
  rw [this]
/-- words that are looked at -/
def c_ad (lm : Nat → Int32) (n : Nat) (w : Nat → Nat) : Prop := c_P n w ∧ (∀ i, i < n → ∀ q, zb (lm (w i)) q = true → ∃ j, j < i ∧ w j = q) ∧ (2 ≤ n → w 0 < w (n - 1))
/-- what a piece of the search comes to -/
def c_im (C : (Nat → Nat) → Nat) (n : Nat) (S E : (Nat → Nat) → Prop) (ls : Nat) (be : Nat → Nat) (ls' : Nat) (be' : Nat → Nat) : Prop := (∀ v, S v → ls' ≤ C v) ∧ ((ls' = ls ∧ ∀ i, i < n → be' i = be i) ∨ (ls' < ls ∧ c_P n be' ∧ E be' ∧ C be' = ls' ∧ ∀ v, S v → c_v v n < c_v be' n → ls' < C v))
theorem c_im.no {C : (Nat → Nat) → Nat} {n : Nat} {S E : (Nat → Nat) → Prop} {ls : Nat} {be : Nat → Nat} (h : ∀ v, S v → ls ≤ C v) : c_im C n S E ls be ls be := ⟨h, Or.inl ⟨rfl, fun _ _ => rfl⟩⟩
theorem c_im.tr {C : (Nat → Nat) → Nat} {n : Nat} {S1 E1 S2 E2 S E : (Nat → Nat) → Prop} {ls ls1 ls2 : Nat} {be be1 be2 : Nat → Nat} (h1 : c_im C n S1 E1 ls be ls1 be1) (h2 : c_im C n S2 E2 ls1 be1 ls2 be2) (hS : ∀ v, S v → S1 v ∨ S2 v) (hE1 : ∀ v, E1 v → E v) (hE2 : ∀ v, E2 v → E v) (hlt : ∀ b v, E1 b → S2 v → c_v b n ≤ c_v v n) (hx : ∀ b b', (∀ i, i < n → b i = b' i) → (E1 b → E1 b') ∧ C b = C b') : c_im C n S E ls be ls2 be2 := by
  have hle : ls2 ≤ ls1 := by
    rcases h2.2 with ⟨q, _⟩ | q
    · omega
    · omega
  refine ⟨fun v hv => ?_, ?_⟩
  · rcases hS v hv with q | q
    · have := h1.1 v q
      omega
    · exact h2.1 v q
  · rcases h2.2 with ⟨q1, q2⟩ | ⟨q1, q2, q3, q4, q5⟩
    · rcases h1.2 with ⟨p1, p2⟩ | ⟨p1, p2, p3, p4, p5⟩
      · exact Or.inl ⟨by omega, fun i hi => by rw [q2 i hi, p2 i hi]⟩
      · have ev := c_v_congr q2
        obtain ⟨x1, x2⟩ := hx be1 be2 (fun i hi => (q2 i hi).symm)
        refine Or.inr ⟨by omega, ?_, hE1 _ (x1 p3), by omega, fun v hv hl => ?_⟩
        · exact ⟨fun i hi => by rw [q2 i hi]; exact p2.1 i hi, fun i j hi hj e => p2.2 i j hi hj (by rw [← q2 i hi, ← q2 j hj]; exact e)⟩
        · rcases hS v hv with z | z
          · have := p5 v z (by rw [← ev]; exact hl)
            omega
          · have := hlt be1 v p3 z
            omega
    · have hlt1 : ls2 < ls := by
        rcases h1.2 with ⟨p1, _⟩ | p
        · omega
        · omega
      refine Or.inr ⟨hlt1, q2, hE2 _ q3, q4, fun v hv hl => ?_⟩
      rcases hS v hv with z | z
      · have := h1.1 v z
        omega
      · exact q5 v z hl
theorem z_shr0 {R x : Nat} (hR : R < 2 ^ 16) (hx : x < 32) : nI R >>> (nI x &&& 31) = 0 ↔ ∀ r, x ≤ r → zb (nI R) r = false := by
  rw [nI_shr hx (by omega)]
  constructor
  · intro h r hr
    have h1 : R / 2 ^ x ≤ R := Nat.div_le_self _ _
    have h2 : R / 2 ^ x = 0 := (nI_eq (b := 0) (by omega) (by omega)).mp (by rw [h, nI_0])
    have h3 : R < 2 ^ x := by
      rcases Nat.lt_or_ge R (2 ^ x) with z | z
      · exact z
      · have := Nat.div_pos z (Nat.two_pow_pos x)
        omega
    rw [zb_nI (by omega)]
    exact Nat.testBit_lt_two_pow (Nat.lt_of_lt_of_le h3 (Nat.pow_le_pow_right (by omega) hr))
  · intro h
    have : R < 2 ^ x := by
      refine Nat.lt_pow_two_of_testBit R (fun r hr => ?_)
      rw [← zb_nI (by omega)]
      exact h r hr
    rw [Nat.div_eq_of_lt this]
    rfl
/-- one place more -/
def c_up (w : Nat → Nat) (d p : Nat) : Nat → Nat := fun i => if i = d then p else w i
/-- the words that go on with p -/
def c_S (lm : Nat → Int32) (n : Nat) (w : Nat → Nat) (d : Nat) (v : Nat → Nat) : Prop := c_ad lm n v ∧ ∀ i, i < d → v i = w i
theorem c_no1 {lm : Nat → Int32} {n d p : Nat} {v w : Nat → Nat} (hd : d < n) (hv : c_S lm n (c_up w d p) (d + 1) v) : v d = p ∧ (∀ i, i < d → v i = w i) ∧ c_u w d p = false := by
  have e : v d = p := by rw [hv.2 d (by omega)]; simp [c_up]
  have e2 : ∀ i, i < d → v i = w i := fun i hi => by
    rw [hv.2 i (by omega)]
    unfold c_up
    rw [if_neg (by omega)]
  refine ⟨e, e2, ?_⟩
  cases z : c_u w d p with
  | false => rfl
  | true =>
    obtain ⟨i, h1, h2⟩ := c_u_iff.mp z
    have := hv.1.1.2 i d (by omega) hd (by rw [e2 i h1, h2, e])
    omega
theorem c_no2 {lm : Nat → Int32} {n d p q : Nat} {v w : Nat → Nat} (hd : d < n) (hv : c_S lm n (c_up w d p) (d + 1) v) (hq : zb (lm p) q = true) : c_u w d q = true := by
  obtain ⟨e1, e2, e3⟩ := c_no1 hd hv
  obtain ⟨j, h1, h2⟩ := hv.1.2.1 d hd q (by rw [e1]; exact hq)
  exact c_u_iff.mpr ⟨j, h1, by rw [← e2 j h1]; exact h2⟩
theorem c_no3 {lm : Nat → Int32} {n d p r : Nat} {v w : Nat → Nat} (hd : d < n) (hv : c_S lm n (c_up w d p) (d + 1) v) (hr : r < n) (hr2 : c_u (c_up w d p) (d + 1) r = false) : ∃ q, q < n ∧ c_u (c_up w d p) (d + 1) q = false ∧ c_up w d p 0 < q := by
  have hs := hv.1.1.sur hr
  obtain ⟨i, i1, i2⟩ := hs
  have hdi : d + 1 ≤ i := by
    rcases Nat.lt_or_ge i (d + 1) with z | z
    · have : c_u (c_up w d p) (d + 1) r = true := c_u_iff.mpr ⟨i, z, by rw [← hv.2 i z]; exact i2⟩
      rw [hr2] at this
      cases this
    · exact z
  have hb := hv.1.2.2 (by omega)
  refine ⟨v (n - 1), hv.1.1.1 _ (by omega), ?_, by rw [← hv.2 0 (by omega)]; exact hb⟩
  cases z : c_u (c_up w d p) (d + 1) (v (n - 1)) with
  | false => rfl
  | true =>
    obtain ⟨j, j1, j2⟩ := c_u_iff.mp z
    rw [← hv.2 j j1] at j2
    have := hv.1.1.2 j (n - 1) (by omega) (by omega) j2
    omega
theorem c_no4 {h : Nat → Nat → Bool} {lm : Nat → Int32} {n m d p : Nat} {v w : Nat → Nat} (hd : d < n) (hv : c_S lm n (c_up w d p) (d + 1) v) : c_bd h n m (c_up w d p) (d + 1) ≤ c_C h n m v := by
  have e := c_l_ext (h := h) (n := n) hv.2
  have : c_bd h n m (c_up w d p) (d + 1) = c_bd h n m v (d + 1) := by
    unfold c_bd
    rw [e.1, e.2.1, e.2.2]
  rw [this, ← c_bd_C hv.1.1]
  exact c_bd_le hv.1.1 (by omega) (Nat.le_refl _)
