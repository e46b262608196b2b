/-! The model's reader: claims joined, negated, in brackets -/
theorem z_Ctr.mono {l : Launch} {d j mc ms : Nat} {as : List Value} {h : zH} {Q Q' : Option Value → zH → Prop} (k : z_Ctr l d j as h mc ms Q) (hq : ∀ r h', Q r h' → Q' r h') : z_Ctr l d j as h mc ms Q' := fun ho hv D cy ρ sz => Jvm.Free.MetFree.mono (k ho hv D cy ρ sz) (fun _ _ p => p) (fun _ _ _ _ _ k => k) (fun a s o s' _ q => ⟨⟨by
  obtain ⟨⟨⟨r, h', ρ', e1, e2, e3⟩, _⟩, _⟩ := q
  exact ⟨r, h', ρ', e1, hq _ _ e2, e3⟩, q.1.2⟩, q.2⟩)
theorem r_bd_e2 {a : Nat} {l : List (Int32 × Int32)} {f : Nat → p_R} {q : Int32 × Nat} (h : f a = .error q) : r_bd (.ok (a, l)) f = .error q := r_bd_e (y := (a, l)) h
theorem r_bd_k2 {a : Nat} {l : List (Int32 × Int32)} {f : Nat → p_R} {z : Nat × List (Int32 × Int32)} (h : f a = .ok z) : r_bd (.ok (a, l)) f = .ok (z.1, l ++ z.2) := r_bd_k (y := (a, l)) h
/-- claims joined, by what reads a claim; w: an or waits -/
def r_cq (kd : Nat → Int32) (C : Nat → p_R) : Nat → Bool → Nat → p_R
  | 0, _, j => .ok (j, [])
  | k + 1, w, j => if kd j = 12 then r_bd (r_bd (.ok (j + 1, if w then [(11, 0)] else [])) C) (r_cq kd C k true) else if kd j = 13 then r_bd (r_bd (C (j + 1)) (fun i => .ok (i, [(10, 0)]))) (r_cq kd C k w) else .ok (j, if w then [(11, 0)] else [])
def r_cs (kd : Nat → Int32) (C : Nat → p_R) (i : Nat) : p_R := r_bd (C i) (r_cq kd C 802 false)
/-- behind a bracket's claims -/
def r_sh (kd : Nat → Int32) (j : Nat) : p_R := if kd j = 8 then .ok (j + 1, []) else .error (1, j)
/-- a claim, with so many openings left -/
def r_cl (kd am : Nat → Int32) : Nat → Nat → p_R
  | 0, i => if kd i = 14 ∨ kd i = 7 then .error (3, i) else r_cm kd am i
  | d + 1, i => if kd i = 14 then r_bd (r_cl kd am d (i + 1)) (fun j => .ok (j, [(9, 0)])) else if kd i = 7 then r_bd (r_cs kd (r_cl kd am d) (i + 1)) (r_sh kd) else r_cm kd am i
theorem r_go.wk {i j : Nat} {x : p_R} (h : r_go j x) (hij : i ≤ j) : r_go i x := fun y hy => by
  obtain ⟨a, b⟩ := h y hy
  exact ⟨by omega, by omega⟩
theorem r_cm_go (kd am : Nat → Int32) (i : Nat) : r_go i (r_cm kd am i) := by
  unfold r_cm
  by_cases h : kd i = 15
  · rw [if_pos h]
    by_cases h2 : ¬ kd (i + 1) = 16
    · rw [if_pos h2]; intro y hy; cases hy
    · rw [if_neg h2]; intro y hy; cases hy; exact ⟨by show i ≤ i + 2; omega, by show 1 + i ≤ i + 2; omega⟩
  · rw [if_neg h]
    cases hR : r_sm kd am i with
    | error e => intro y hy; cases hy
    | ok x =>
      dsimp only
      by_cases h2 : ¬ (kd x.1 = 9 ∨ kd x.1 = 10 ∨ kd x.1 = 11)
      · rw [if_pos h2]; intro y hy; cases hy
      · rw [if_neg h2]
        have g := r_sm_go kd am i
        rw [hR] at g
        exact g.bd (fun j => r_go1 (r_sm_go kd am (j + 1)) (fun _ => (kd j - 3, 0)))
/-- with an or that waits: at the end one more code may come -/
def r_gq (i w : Nat) (x : p_R) : Prop := ∀ y, x = .ok y → i ≤ y.1 ∧ y.2.length + i ≤ y.1 + w
theorem r_cq_go {kd : Nat → Int32} {C : Nat → p_R} (hC : ∀ i, r_go i (C i)) : ∀ k w j, r_gq j (if w then 1 else 0) (r_cq kd C k w j)
  | 0, w, j => by intro y hy; cases hy; exact ⟨Nat.le_refl _, by show 0 + j ≤ _; omega⟩
  | k + 1, w, j => by
    rw [r_cq]
    by_cases h12 : kd j = 12
    · rw [if_pos h12]
      intro y hy
      cases e1 : C (j + 1) with
      | error e => rw [r_bd_e2 e1, r_bd_r] at hy; cases hy
      | ok z =>
        rw [r_bd_k2 e1] at hy
        obtain ⟨a, b⟩ := hC (j + 1) z e1
        cases e2 : r_cq kd C k true z.1 with
        | error e => rw [r_bd_e2 e2] at hy; cases hy
        | ok u =>
          rw [r_bd_k2 e2] at hy
          cases hy
          obtain ⟨c, d⟩ := r_cq_go hC k true z.1 u e2
          rw [if_pos rfl] at d
          refine ⟨by show j ≤ u.1; omega, ?_⟩
          show ((if w then [(11, 0)] else [] : List (Int32 × Int32)) ++ z.2 ++ u.2).length + j ≤ u.1 + _
          rw [List.length_append, List.length_append]
          cases w
          · simp; omega
          · simp; omega
    · rw [if_neg h12]
      by_cases h13 : kd j = 13
      · rw [if_pos h13]
        intro y hy
        cases e1 : C (j + 1) with
        | error e => rw [e1, r_bd_r, r_bd_r] at hy; cases hy
        | ok z =>
          rw [e1, r_bd_k (z := (z.1, [(10, 0)])) rfl] at hy
          dsimp only at hy
          obtain ⟨a, b⟩ := hC (j + 1) z e1
          cases e2 : r_cq kd C k w z.1 with
          | error e => rw [r_bd_e2 e2] at hy; cases hy
          | ok u =>
            rw [r_bd_k2 e2] at hy
            cases hy
            obtain ⟨c, d⟩ := r_cq_go hC k w z.1 u e2
            refine ⟨by show j ≤ u.1; omega, ?_⟩
            show (z.2 ++ [(10, 0)] ++ u.2).length + j ≤ u.1 + _
            rw [List.length_append, List.length_append]
            simp only [List.length_cons, List.length_nil]
            omega
      · rw [if_neg h13]
        intro y hy
        cases hy
        refine ⟨Nat.le_refl _, ?_⟩
        cases w
        · simp
        · simp; omega
theorem r_cs_go {kd : Nat → Int32} {C : Nat → p_R} (hC : ∀ i, r_go i (C i)) (i : Nat) : r_go i (r_cs kd C i) := (hC i).bd (fun j y hy => by
  obtain ⟨a, b⟩ := r_cq_go hC 802 false j y hy
  exact ⟨a, by simpa using b⟩)
theorem r_cl_go (kd am : Nat → Int32) : ∀ d i, r_go i (r_cl kd am d i)
  | 0, i => by
    rw [r_cl]
    by_cases h : kd i = 14 ∨ kd i = 7
    · rw [if_pos h]; intro y hy; cases hy
    · rw [if_neg h]; exact r_cm_go kd am i
  | d + 1, i => by
    rw [r_cl]
    by_cases h : kd i = 14
    · rw [if_pos h]
      exact r_go1 (r_cl_go kd am d (i + 1)) (fun _ => (9, 0))
    · rw [if_neg h]
      by_cases h7 : kd i = 7
      · rw [if_pos h7]
        refine r_go.wk ((r_cs_go (r_cl_go kd am d) (i + 1)).bd (fun j y hy => ?_)) (Nat.le_succ i)
        unfold r_sh at hy
        split at hy
        · cases hy; exact ⟨by show j ≤ j + 1; omega, by show 0 + j ≤ j + 1; omega⟩
        · cases hy
      · rw [if_neg h7]; exact r_cm_go kd am i
theorem m_sg40 : m_sign 40 := by unfold m_sign; simp
theorem m_sg41 : m_sign 41 := by unfold m_sign; simp
theorem m_sg59 : m_sign 59 := by unfold m_sign; simp
theorem p_lc_rep (w : Int32) : ∀ (a : Nat) (S : List Int32), p_lc w (List.replicate a w ++ S) = a + p_lc w S
  | 0, S => by simp
  | a + 1, S => by rw [List.replicate_succ, List.cons_append, p_lc, if_pos rfl, p_lc_rep w a S]; omega
theorem p_rep_drop (w : Int32) : ∀ (a : Nat) (S : List Int32), (List.replicate a w ++ S).drop a = S
  | 0, S => by simp
  | a + 1, S => by rw [List.replicate_succ, List.cons_append, List.drop_succ_cons, p_rep_drop w a S]
/-- what settling and waiting leave of the token -/
theorem m_r0.f2 {I I' : Nat → Nat → Int32} {t : Nat → Int32} {N i : Nat} (h0 : m_r0 I t N i) (f1 : m_f2 I I') (f2 : ∀ k, k ≠ 22 → k ≠ 25 → k ≠ 23 → I' 71 k = I 71 k) : m_r0 I' t N i := by
  obtain ⟨a1, a2, a3, a4, a5, a6, a7, a8, a9⟩ := h0
  exact ⟨by rw [f2 _ (by decide) (by decide) (by decide)]; exact a1, a2, by rw [f1.1 77 (by decide) (by decide) (by decide) (by decide)]; exact a3, a4, by rw [f1.1 78 (by decide) (by decide) (by decide) (by decide)]; exact a5, by rw [f2 _ (by decide) (by decide) (by decide)]; exact a6, by rw [f2 _ (by decide) (by decide) (by decide)]; exact a7, by rw [f2 _ (by decide) (by decide) (by decide), f2 _ (by decide) (by decide) (by decide)]; exact a8, a9⟩
/-- the reader among claims -/
def m_ra (I : Nat → Nat → Int32) (t : Nat → Int32) (N i : Nat) (ms : List (Int32 × Int32)) (S : List Int32) (o : Nat) : Prop := m_r0 I t N i ∧ p_cd I ms ∧ p_sk I S ∧ I 71 23 = nI o ∧ ms.length + S.length ≤ i ∧ S.length ≤ 3 * o + 2 ∧ o ≤ 8
section PAR8
variable {l : Launch} {n : Nat} {K L : Nat → Nat} {I : Nat → Nat → Int32} {J : Nat → Nat → Int64} {G : Nat → Nat → Value} {t : Nat → Int32} {N i : Nat} {ms : List (Int32 × Int32)} {S : List Int32} {o : Nat}
theorem m_ra.rd (h : m_ra I t N i ms S o) : m_rd I t N i ms := m_rd_iff.mpr ⟨h.1, h.2.1, by have := h.2.2.2.2.1; omega⟩
/-- next, among claims -/
theorem c177a (hS : SS K L G) (h1 : m_r0 I t N i) (h2 : p_cd I ms) (h3 : p_sk I S) (h4 : I 71 23 = nI o) (h5 : ms.length + S.length ≤ i + 1) (h6 : S.length ≤ 3 * o + 2) (h7 : o ≤ 8) (hk : ¬ p_K t N i = 0) : z_Ctr l 2 177 [.ref 71] (n, K, L, I, J, G) 0 0 (fun r h' => r = none ∧ ∃ I', h' = (n, K, L, I', J, G) ∧ m_f2 I I' ∧ m_ra I' t N (i + 1) ms S o) := by
  refine (c177r (l := l) (n := n) (J := J) hS h1).mono (fun r h' q => ?_)
  obtain ⟨rfl, I2, rfl, q1, q2, q3, q4⟩ := q
  obtain ⟨f2, r2, cc2⟩ := h1.nx hk q1 q2 q3 q4
  exact ⟨rfl, I2, rfl, f2.f2, r2, cc2 _ h2, f2.sk h3, by rw [f2.op]; exact h4, h5, h6, h7⟩
/-- one more waits -/
theorem m_rpu (h1 : m_r0 I t N i) (h2 : p_cd I ms) (h3 : p_sk I S) (w : Int32) : m_f2 I (z_u (z_u I 83 S.length w) 71 25 (nI (S.length + 1))) ∧ m_r0 (z_u (z_u I 83 S.length w) 71 25 (nI (S.length + 1))) t N i ∧ p_cd (z_u (z_u I 83 S.length w) 71 25 (nI (S.length + 1))) ms ∧ p_sk (z_u (z_u I 83 S.length w) 71 25 (nI (S.length + 1))) (w :: S) ∧ z_u (z_u I 83 S.length w) 71 25 (nI (S.length + 1)) 71 23 = I 71 23 := by
  have f : m_f2 I (z_u (z_u I 83 S.length w) 71 25 (nI (S.length + 1))) := ⟨fun q a b c d => by rw [z_u_ne a, z_u_ne d], fun k a b c d e f g h i => by rw [z_u_at, if_neg h, z_u_ne (by decide)], fun k _ => ⟨by rw [z_u_ne (by decide), z_u_ne (by decide)], by rw [z_u_ne (by decide), z_u_ne (by decide)]⟩⟩
  refine ⟨f, h1.f2 f (fun k a b c => by rw [z_u_at, if_neg b, z_u_ne (by decide)]), ⟨by rw [z_u_at, if_neg (by decide), z_u_ne (by decide)]; exact h2.1, fun j x hj => by rw [z_u_ne (by decide), z_u_ne (by decide), z_u_ne (by decide), z_u_ne (by decide)]; exact h2.2 j x hj⟩, h3.push w, by rw [z_u_at, if_neg (by decide), z_u_ne (by decide)]⟩
/-- another number of openings -/
theorem m_rop (h1 : m_r0 I t N i) (h2 : p_cd I ms) (h3 : p_sk I S) (x : Int32) : m_f2 I (z_u I 71 23 x) ∧ m_r0 (z_u I 71 23 x) t N i ∧ p_cd (z_u I 71 23 x) ms ∧ p_sk (z_u I 71 23 x) S ∧ z_u I 71 23 x 71 23 = x := by
  have f : m_f2 I (z_u I 71 23 x) := ⟨fun q a b c d => by rw [z_u_ne a], fun k a b c d e f g h i => by rw [z_u_at, if_neg i], fun k _ => ⟨by rw [z_u_ne (by decide)], by rw [z_u_ne (by decide)]⟩⟩
  refine ⟨f, h1.f2 f (fun k a b c => by rw [z_u_at, if_neg c]), ⟨by rw [z_u_at, if_neg (by decide)]; exact h2.1, fun j x hj => by rw [z_u_ne (by decide), z_u_ne (by decide)]; exact h2.2 j x hj⟩, ⟨by rw [z_u_at, if_neg (by decide)]; exact h3.1, fun j x hj => by rw [z_u_ne (by decide)]; exact h3.2 j x hj⟩, by rw [z_u_at, if_pos rfl]⟩
/-- one less waits -/
theorem m_rpo {x : Int32} (h1 : m_r0 I t N i) (h2 : p_cd I ms) (h3 : p_sk I (x :: S)) : m_f2 I (z_u I 71 25 (nI S.length)) ∧ m_r0 (z_u I 71 25 (nI S.length)) t N i ∧ p_cd (z_u I 71 25 (nI S.length)) ms ∧ p_sk (z_u I 71 25 (nI S.length)) S ∧ z_u I 71 25 (nI S.length) 71 23 = I 71 23 := by
  have f : m_f2 I (z_u I 71 25 (nI S.length)) := ⟨fun q a b c d => by rw [z_u_ne a], fun k a b c d e f g h i => by rw [z_u_at, if_neg h], fun k _ => ⟨by rw [z_u_ne (by decide)], by rw [z_u_ne (by decide)]⟩⟩
  refine ⟨f, h1.f2 f (fun k a b c => by rw [z_u_at, if_neg b]), ⟨by rw [z_u_at, if_neg (by decide)]; exact h2.1, fun j x hj => by rw [z_u_ne (by decide), z_u_ne (by decide)]; exact h2.2 j x hj⟩, h3.pop, by rw [z_u_at, if_neg (by decide)]⟩
/-- settles, among claims -/
theorem c188a (hS : SS K L G) (h : m_ra I t N i ms S o) (w : Int32) (h9 : w = 9 → p_lc w S ≤ o ∧ (S.length - p_lc w S) ≤ 3 * (o - p_lc w S) + 2) : z_Ctr l 1 188 [.ref 71, .int w] (n, K, L, I, J, G) 0 0 (fun r h' => r = none ∧ ∃ I', h' = (n, K, L, I', J, G) ∧ m_f2 I I' ∧ m_ra I' t N i (ms ++ List.replicate (p_lc w S) (w, 0)) (S.drop (p_lc w S)) (if w = 9 then o - p_lc w S else o)) := by
  obtain ⟨h1, h2, h3, h4, h5, h6, h7⟩ := h
  have hle := h1.le
  have hpl := p_lc_le w S
  refine (c188 (l := l) (n := n) (J := J) hS h3 h2 (by omega) (by omega) w).mono (fun r h' q => ?_)
  obtain ⟨rfl, I2, rfl, q1, q2, q3, q4, q5⟩ := q
  refine ⟨rfl, I2, rfl, q1, h1.f2 q1 q2, q4, q3, ?_, ?_, ?_, ?_⟩
  · rw [q5, h4]
    by_cases z : w = 9
    · rw [if_pos z, if_pos z, nI_sub' (h9 z).1]
    · rw [if_neg z, if_neg z]
  · rw [List.length_append, List.length_replicate, List.length_drop]; omega
  · rw [List.length_drop]
    by_cases z : w = 9
    · rw [if_pos z]; exact (h9 z).2
    · rw [if_neg z]; omega
  · split <;> omega
end PAR8
