/-! What a text's reader puts down can be reckoned -/
def y_to (ys : List (Int32 × Int32)) (s s' : Nat × Nat) : Prop := ∀ rest, y_mr (ys ++ rest) s = y_mr rest s'
theorem y_to.nil (s : Nat × Nat) : y_to [] s s := fun _ => rfl
theorem y_to.app {a b : List (Int32 × Int32)} {s s1 s2 : Nat × Nat} (h : y_to a s s1) (h2 : y_to b s1 s2) : y_to (a ++ b) s s2 := fun rest => by rw [List.append_assoc, h, h2]
theorem y_to.one {x : Int32 × Int32} {s s' : Nat × Nat} (h : y_sm x s = some s') : y_to [x] s s' := fun rest => y_mr_c h
theorem r_bd_inv {x : p_R} {f : Nat → p_R} {y : Nat × List (Int32 × Int32)} (h : r_bd x f = .ok y) : ∃ y1 y2, x = .ok y1 ∧ f y1.1 = .ok y2 ∧ y = (y2.1, y1.2 ++ y2.2) := by
  cases x with
  | error e => rw [r_bd_r] at h; cases h
  | ok z =>
    cases e : f z.1 with
    | error q => rw [r_bd_e e] at h; cases h
    | ok u =>
      rw [r_bd_k e] at h
      cases h
      exact ⟨z, u, rfl, e, rfl⟩
theorem y_un {kd am : Nat → Int32} {i : Nat} {y : Nat × List (Int32 × Int32)} (h : r_un kd am i = .ok y) {s : Nat × Nat} (hs : s.1 + s.2 < 40) : y_to y.2 s (s.1 + 1, s.2) := by
  unfold r_un at h
  split at h
  · cases h
    refine y_to.one ?_
    unfold y_sm
    rw [if_pos (by by_cases q : kd i = 16 <;> simp [q]), if_pos hs]
  · cases h
theorem y_op {w : Int32} (hw : w = 2 ∨ w = 3 ∨ w = 4 ∨ w = 5) {a : Int32} {s : Nat × Nat} (hs : 1 ≤ s.1) : y_to [(w, a)] (s.1 + 1, s.2) s := by
  refine y_to.one ?_
  unfold y_sm
  dsimp only
  rw [if_neg (fun q => by rcases hw with z | z | z | z <;> (rw [z] at q; exact absurd q (by decide))), if_pos hw, if_pos (by omega)]
  rfl
theorem y_pl {kd am : Nat → Int32} : ∀ (k j : Nat) {y : Nat × List (Int32 × Int32)}, r_pl kd am k j = .ok y → ∀ {s : Nat × Nat}, 1 ≤ s.1 → s.1 + s.2 < 40 → y_to y.2 s s
  | 0, j, y, h, s, _, _ => by cases h; exact y_to.nil s
  | k + 1, j, y, h, s, h1, h2 => by
    rw [r_pl] at h
    by_cases h5 : kd j = 5
    · rw [if_pos h5] at h
      obtain ⟨y1, y2, e1, e2, rfl⟩ := r_bd_inv h
      obtain ⟨z1, z2, g1, g2, rfl⟩ := r_bd_inv e1
      cases g2
      exact ((y_un g1 h2).app (y_op (by simp) h1)).app (y_pl k _ e2 h1 h2)
    · rw [if_neg h5] at h
      by_cases h6 : kd j = 6
      · rw [if_pos h6] at h
        by_cases h17 : ¬ kd (j + 1) = 17
        · rw [if_pos h17] at h; cases h
        · rw [if_neg h17] at h
          by_cases ha : am (j + 1) = 0
          · rw [if_pos ha] at h; cases h
          · rw [if_neg ha] at h
            obtain ⟨y1, y2, e1, e2, rfl⟩ := r_bd_inv h
            cases e1
            refine y_to.app (s1 := s) ?_ (y_pl k _ e2 h1 h2)
            refine y_to.app (a := [(0, am (j + 1))]) (b := [(5, 0)]) (s1 := (s.1 + 1, s.2)) (y_to.one ?_) (y_op (by simp) h1)
            show (if s.1 + s.2 < 40 then some (s.1 + 1, s.2) else none) = _
            rw [if_pos h2]
      · rw [if_neg h6] at h
        cases h
        exact y_to.nil s
theorem y_pr {kd am : Nat → Int32} {i : Nat} {y : Nat × List (Int32 × Int32)} (h : r_pr kd am i = .ok y) {s : Nat × Nat} (hs : s.1 + s.2 + 1 < 40) : y_to y.2 s (s.1 + 1, s.2) := by
  obtain ⟨y1, y2, e1, e2, rfl⟩ := r_bd_inv h
  exact (y_un e1 (by omega)).app (y_pl 802 _ e2 (by show 1 ≤ s.1 + 1; omega) (by show s.1 + 1 + s.2 < 40; omega))
theorem y_sl {kd am : Nat → Int32} : ∀ (k j : Nat) {y : Nat × List (Int32 × Int32)}, r_sl kd am k j = .ok y → ∀ {s : Nat × Nat}, 1 ≤ s.1 → s.1 + s.2 + 1 < 40 → y_to y.2 s s
  | 0, j, y, h, s, _, _ => by cases h; exact y_to.nil s
  | k + 1, j, y, h, s, h1, h2 => by
    rw [r_sl] at h
    by_cases h3 : kd j = 3 ∨ kd j = 4
    · rw [if_pos h3] at h
      obtain ⟨y1, y2, e1, e2, rfl⟩ := r_bd_inv h
      obtain ⟨z1, z2, g1, g2, rfl⟩ := r_bd_inv e1
      cases g2
      exact ((y_pr g1 h2).app (y_op (by by_cases q : kd j = 3 <;> simp [q]) h1)).app (y_sl k _ e2 h1 h2)
    · rw [if_neg h3] at h
      cases h
      exact y_to.nil s
theorem y_sum {kd am : Nat → Int32} {i : Nat} {y : Nat × List (Int32 × Int32)} (h : r_sm kd am i = .ok y) {s : Nat × Nat} (hs : s.1 + s.2 + 2 < 40) : y_to y.2 s (s.1 + 1, s.2) := by
  obtain ⟨y1, y2, e1, e2, rfl⟩ := r_bd_inv h
  exact (y_pr e1 (by omega)).app (y_sl 802 _ e2 (by show 1 ≤ s.1 + 1; omega) (by show s.1 + 1 + s.2 + 1 < 40; omega))
theorem y_cm {kd am : Nat → Int32} {i : Nat} {y : Nat × List (Int32 × Int32)} (h : r_cm kd am i = .ok y) {b : Nat} (hb : b + 3 < 40) : y_to y.2 (0, b) (0, b + 1) := by
  unfold r_cm at h
  by_cases h15 : kd i = 15
  · rw [if_pos h15] at h
    by_cases h16 : ¬ kd (i + 1) = 16
    · rw [if_pos h16] at h; cases h
    · rw [if_neg h16] at h
      cases h
      refine y_to.one ?_
      show (if (0 : Nat) = 0 ∧ 0 + b < 40 then some (0, b + 1) else none) = _
      rw [if_pos ⟨rfl, by omega⟩]
  · rw [if_neg h15] at h
    cases hR : r_sm kd am i with
    | error e => rw [hR] at h; cases h
    | ok x =>
      rw [hR] at h
      dsimp only at h
      by_cases hc : ¬ (kd x.1 = 9 ∨ kd x.1 = 10 ∨ kd x.1 = 11)
      · rw [if_pos hc] at h; cases h
      · rw [if_neg hc] at h
        obtain ⟨y1, y2, e1, e2, rfl⟩ := r_bd_inv h
        cases e1
        obtain ⟨z1, z2, g1, g2, rfl⟩ := r_bd_inv e2
        cases g2
        refine (y_sum hR (s := (0, b)) (by show 0 + b + 2 < 40; omega)).app ((y_sum g1 (s := (0 + 1, b)) (by show 0 + 1 + b + 2 < 40; omega)).app (y_to.one ?_))
        have hc' : kd x.1 - 3 = 6 ∨ kd x.1 - 3 = 7 ∨ kd x.1 - 3 = 8 := by
          rcases Classical.not_not.mp hc with q | q | q <;> (rw [q]; decide)
        unfold y_sm
        dsimp only
        rw [if_neg (fun q => by rcases hc' with z | z | z <;> (rw [z] at q; exact absurd q (by decide))), if_neg (fun q => by rcases hc' with z | z | z <;> (rw [z] at q; exact absurd q (by decide))), if_pos hc', if_pos rfl]
/-- a piece read ends within the text -/
def r_le (x : p_R) : Prop := ∀ y, x = .ok y → y.1 ≤ 800
theorem r_le.bd {x : p_R} {f : Nat → p_R} (h : r_le x) (hf : ∀ j, j ≤ 800 → r_le (f j)) : r_le (r_bd x f) := by
  intro y hy
  obtain ⟨y1, y2, e1, e2, rfl⟩ := r_bd_inv hy
  exact hf y1.1 (h y1 e1) y2 e2
theorem r_le.k {j : Nat} (h : j ≤ 800) (l : List (Int32 × Int32)) : r_le (.ok (j, l)) := fun y hy => by cases hy; exact h
theorem r_le.e (e : Int32 × Nat) : r_le (.error e) := fun y hy => by cases hy
section TYP
variable {kd am : Nat → Int32} (H : ∀ i, ¬ kd i = 0 → i < 800)
theorem r_un_le (H : ∀ i, ¬ kd i = 0 → i < 800) (i : Nat) : r_le (r_un kd am i) := by
  unfold r_un
  by_cases h : kd i = 16 ∨ kd i = 17
  · rw [if_pos h]
    exact r_le.k (H i (fun q => by rcases h with z | z <;> (rw [z] at q; exact absurd q (by decide)))) _
  · rw [if_neg h]; exact r_le.e _
theorem r_pl_le (H : ∀ i, ¬ kd i = 0 → i < 800) : ∀ k j, j ≤ 800 → r_le (r_pl kd am k j)
  | 0, j, hj => r_le.k hj _
  | k + 1, j, hj => by
    rw [r_pl]
    by_cases h5 : kd j = 5
    · rw [if_pos h5]
      exact ((r_un_le H (j + 1)).bd (fun i hi => r_le.k hi _)).bd (r_pl_le H k)
    · rw [if_neg h5]
      by_cases h6 : kd j = 6
      · rw [if_pos h6]
        by_cases h17 : ¬ kd (j + 1) = 17
        · rw [if_pos h17]; exact r_le.e _
        · rw [if_neg h17]
          by_cases ha : am (j + 1) = 0
          · rw [if_pos ha]; exact r_le.e _
          · rw [if_neg ha]
            exact (r_le.k (H (j + 1) (by rw [Classical.not_not.mp h17]; decide)) _).bd (r_pl_le H k)
      · rw [if_neg h6]; exact r_le.k hj _
theorem r_pr_le (H : ∀ i, ¬ kd i = 0 → i < 800) (i : Nat) : r_le (r_pr kd am i) := (r_un_le H i).bd (r_pl_le H 802)
theorem r_sl_le (H : ∀ i, ¬ kd i = 0 → i < 800) : ∀ k j, j ≤ 800 → r_le (r_sl kd am k j)
  | 0, j, hj => r_le.k hj _
  | k + 1, j, hj => by
    rw [r_sl]
    by_cases h3 : kd j = 3 ∨ kd j = 4
    · rw [if_pos h3]
      exact ((r_pr_le H (j + 1)).bd (fun i hi => r_le.k hi _)).bd (r_sl_le H k)
    · rw [if_neg h3]; exact r_le.k hj _
theorem r_sm_le (H : ∀ i, ¬ kd i = 0 → i < 800) (i : Nat) : r_le (r_sm kd am i) := (r_pr_le H i).bd (r_sl_le H 802)
theorem r_cm_le (H : ∀ i, ¬ kd i = 0 → i < 800) (i : Nat) : r_le (r_cm kd am i) := by
  unfold r_cm
  by_cases h15 : kd i = 15
  · rw [if_pos h15]
    by_cases h16 : ¬ kd (i + 1) = 16
    · rw [if_pos h16]; exact r_le.e _
    · rw [if_neg h16]; exact r_le.k (H (i + 1) (by rw [Classical.not_not.mp h16]; decide)) _
  · rw [if_neg h15]
    cases hR : r_sm kd am i with
    | error e => exact r_le.e _
    | ok x =>
      dsimp only
      by_cases hc : ¬ (kd x.1 = 9 ∨ kd x.1 = 10 ∨ kd x.1 = 11)
      · rw [if_pos hc]; exact r_le.e _
      · rw [if_neg hc]
        exact (r_le.k (r_sm_le H i x hR) _).bd (fun j _ => (r_sm_le H (j + 1)).bd (fun k hk => r_le.k hk _))
theorem r_cq_le (H : ∀ i, ¬ kd i = 0 → i < 800) {C : Nat → p_R} (hC : ∀ i, r_le (C i)) : ∀ k w j, j ≤ 800 → r_le (r_cq kd C k w j)
  | 0, w, j, hj => r_le.k hj _
  | k + 1, w, j, hj => by
    rw [r_cq]
    by_cases h12 : kd j = 12
    · rw [if_pos h12]
      exact ((r_le.k (H j (by rw [h12]; decide)) _).bd (fun i _ => hC i)).bd (r_cq_le H hC k true)
    · rw [if_neg h12]
      by_cases h13 : kd j = 13
      · rw [if_pos h13]
        exact ((hC (j + 1)).bd (fun i hi => r_le.k hi _)).bd (r_cq_le H hC k w)
      · rw [if_neg h13]; exact r_le.k hj _
theorem r_cl_le (H : ∀ i, ¬ kd i = 0 → i < 800) : ∀ d i, r_le (r_cl kd am d i)
  | 0, i => by
    rw [r_cl]
    by_cases h : kd i = 14 ∨ kd i = 7
    · rw [if_pos h]; exact r_le.e _
    · rw [if_neg h]; exact r_cm_le H i
  | d + 1, i => by
    rw [r_cl]
    by_cases h : kd i = 14
    · rw [if_pos h]; exact (r_cl_le H d (i + 1)).bd (fun j hj => r_le.k hj _)
    · rw [if_neg h]
      by_cases h7 : kd i = 7
      · rw [if_pos h7]
        refine ((r_cl_le H d (i + 1)).bd (r_cq_le H (r_cl_le H d) 802 false)).bd (fun j hj => ?_)
        unfold r_sh
        by_cases h8 : kd j = 8
        · rw [if_pos h8]; exact r_le.k (H j (by rw [h8]; decide)) _
        · rw [if_neg h8]; exact r_le.e _
      · rw [if_neg h7]; exact r_cm_le H i
theorem y_lg {w : Int32} (hw : w = 10 ∨ w = 11) {b : Nat} : y_to [(w, 0)] (0, b + 2) (0, b + 1) := by
  refine y_to.one ?_
  unfold y_sm
  dsimp only
  rw [if_neg (fun q => by rcases hw with z | z <;> (rw [z] at q; exact absurd q (by decide))), if_neg (fun q => by rcases hw with z | z <;> (rw [z] at q; exact absurd q (by decide))), if_neg (fun q => by rcases hw with z | z <;> (rw [z] at q; exact absurd q (by decide))), if_neg (fun q => by rcases hw with z | z <;> (rw [z] at q; exact absurd q (by decide))), if_neg (fun q => by rcases hw with z | z <;> (rw [z] at q; exact absurd q (by decide))), if_pos ⟨rfl, by omega⟩]
  rfl
theorem y_cq (H : ∀ i, ¬ kd i = 0 → i < 800) {C : Nat → p_R} {h0 : Nat} (hg : ∀ i, r_go i (C i)) (hl : ∀ i, r_le (C i)) (hC : ∀ i y, C i = .ok y → ∀ b, b + h0 < 40 → y_to y.2 (0, b) (0, b + 1)) : ∀ (k : Nat) (w : Bool) (j : Nat) {y : Nat × List (Int32 × Int32)}, j ≤ 800 → 802 ≤ j + k → r_cq kd C k w j = .ok y → ∀ b, b + 2 + h0 < 40 → y_to y.2 (0, b + 1 + (if w then 1 else 0)) (0, b + 1)
  | 0, w, j, y, hj, hk, _, b, _ => by omega
  | k + 1, w, j, y, hj, hk, h, b, hb => by
    have eo : y_to (if w then [(11, 0)] else []) (0, b + 1 + (if w then 1 else 0)) (0, b + 1) := by
      cases w
      · exact y_to.nil _
      · exact y_lg (b := b) (Or.inr rfl)
    rw [r_cq] at h
    by_cases h12 : kd j = 12
    · rw [if_pos h12] at h
      obtain ⟨y1, y2, e1, e2, rfl⟩ := r_bd_inv h
      obtain ⟨z1, z2, g1, g2, rfl⟩ := r_bd_inv e1
      cases g1
      have hz := hg _ _ g2
      have hz2 := hl _ _ g2
      have := y_cq H hg hl hC k true z2.1 hz2 (by dsimp only at hz; omega) e2 b hb
      exact (eo.app (hC _ _ g2 (b + 1) (by omega))).app this
    · rw [if_neg h12] at h
      by_cases h13 : kd j = 13
      · rw [if_pos h13] at h
        obtain ⟨y1, y2, e1, e2, rfl⟩ := r_bd_inv h
        obtain ⟨z1, z2, g1, g2, rfl⟩ := r_bd_inv e1
        cases g2
        have hz := hg _ _ g1
        have hz2 := hl _ _ g1
        have ih := y_cq H hg hl hC k w z1.1 hz2 (by omega) e2 b hb
        refine y_to.app (y_to.app (hC _ _ g1 (b + 1 + (if w then 1 else 0)) (by split <;> omega)) ?_) ih
        rw [show b + 1 + (if w then 1 else 0) + 1 = (b + (if w then 1 else 0)) + 2 by omega, show b + 1 + (if w then 1 else 0) = (b + (if w then 1 else 0)) + 1 by omega]
        exact y_lg (Or.inl rfl)
      · rw [if_neg h13] at h
        cases h
        exact eo
theorem y_cs (H : ∀ i, ¬ kd i = 0 → i < 800) {C : Nat → p_R} {h0 : Nat} (hg : ∀ i, r_go i (C i)) (hl : ∀ i, r_le (C i)) (hne : ∀ i, r_ne (C i)) (hC : ∀ i y, C i = .ok y → ∀ b, b + h0 < 40 → y_to y.2 (0, b) (0, b + 1)) {i : Nat} {y : Nat × List (Int32 × Int32)} (h : r_cs kd C i = .ok y) {b : Nat} (hb : b + 2 + h0 < 40) : y_to y.2 (0, b) (0, b + 1) := by
  obtain ⟨y1, y2, e1, e2, rfl⟩ := r_bd_inv h
  exact (hC _ _ e1 b (by omega)).app (y_cq H hg hl hC 802 false y1.1 (hl _ _ e1) (by omega) e2 b hb)
theorem y_cl (H : ∀ i, ¬ kd i = 0 → i < 800) : ∀ (d i : Nat) (y : Nat × List (Int32 × Int32)), r_cl kd am d i = .ok y → ∀ b, b + (3 + 2 * d) < 40 → y_to y.2 (0, b) (0, b + 1)
  | 0, i, y, h, b, hb => by
    rw [r_cl] at h
    by_cases h1 : kd i = 14 ∨ kd i = 7
    · rw [if_pos h1] at h; cases h
    · rw [if_neg h1] at h; exact y_cm h (by omega)
  | d + 1, i, y, h, b, hb => by
    rw [r_cl] at h
    by_cases h1 : kd i = 14
    · rw [if_pos h1] at h
      obtain ⟨y1, y2, e1, e2, rfl⟩ := r_bd_inv h
      cases e2
      refine (y_cl H d _ y1 e1 b (by omega)).app (y_to.one ?_)
      show (if (0 : Nat) = 0 ∧ 1 ≤ b + 1 then some (0, b + 1) else none) = _
      rw [if_pos ⟨rfl, by omega⟩]
    · rw [if_neg h1] at h
      by_cases h7 : kd i = 7
      · rw [if_pos h7] at h
        obtain ⟨y1, y2, e1, e2, rfl⟩ := r_bd_inv h
        have e3 : y2.2 = [] := by
          unfold r_sh at e2
          split at e2
          · cases e2; rfl
          · cases e2
        show y_to (y1.2 ++ y2.2) _ _
        rw [e3, List.append_nil]
        exact y_cs H (r_cl_go kd am d) (r_cl_le H d) (r_cl_ne kd am d) (y_cl H d) e1 (by omega)
      · rw [if_neg h7] at h; exact y_cm h (by omega)
/-- every mark of a text can be reckoned -/
theorem y_rd (H : ∀ i, ¬ kd i = 0 → i < 800) : ∀ (k m i : Nat) (Z : List (List (Int32 × Int32))), r_rd kd am k m i = .ok Z → ∀ ys ∈ Z, y_mr ys (0, 0) = some (0, 1)
  | 0, m, i, Z, h => by cases h; intro ys hy; cases hy
  | k + 1, m, i, Z, h => by
    rw [r_rd] at h
    by_cases h0 : kd i = 0
    · rw [if_pos h0] at h; cases h; intro ys hy; cases hy
    · rw [if_neg h0] at h
      by_cases h12 : m = 12
      · rw [if_pos h12] at h; cases h
      · rw [if_neg h12] at h
        cases e1 : r_cs kd (r_cl kd am 8) i with
        | error e => rw [e1] at h; cases h
        | ok y =>
          rw [e1] at h
          dsimp only at h
          by_cases h2 : kd y.1 = 2
          · rw [if_pos h2] at h
            cases e2 : r_rd kd am k (m + 1) (y.1 + 1) with
            | error e => rw [e2] at h; cases h
            | ok z =>
              rw [e2] at h
              cases h
              intro ys hy
              rcases List.mem_cons.mp hy with rfl | hy
              · have := y_cs H (r_cl_go kd am 8) (r_cl_le H 8) (r_cl_ne kd am 8) (y_cl H 8) e1 (b := 0) (by omega) []
                rw [List.append_nil] at this
                rw [this]
                rfl
              · exact y_rd H k (m + 1) (y.1 + 1) z e2 ys hy
          · rw [if_neg h2] at h; cases h
end TYP
theorem p_K_800 {t : Nat → Int32} {N : Nat} (hN : N ≤ 800) (i : Nat) (h : ¬ p_K t N i = 0) : i < 800 := by
  have end' : ∀ a, a ≤ N → p_kd t N a = 0 → p_kd t N (p_nx t N a) = 0 := by
    intro a ha hk
    have hst : ¬ p_st t N a < N := by
      intro q
      unfold p_kd at hk
      rw [if_neg (fun z => z q)] at hk
      by_cases hL : p_L (t (p_st t N a)) = true
      · rw [if_pos hL] at hk
        rcases p_w_in t (p_st t N a) (p_ed p_L t N (p_st t N a + 1)) with z | ⟨j, hj, z⟩
        · rw [z] at hk; exact absurd hk (by decide)
        · rw [z] at hk
          rcases p_wk_ok j hj with ⟨_, y, _⟩ | ⟨y, _⟩
          · rw [y] at hk; exact absurd hk (by decide)
          · rcases y with y | y | y | y <;> (rw [y] at hk; exact absurd hk (by decide))
      · rw [if_neg hL] at hk
        by_cases hD : p_D (t (p_st t N a)) = true
        · rw [if_pos hD] at hk
          split at hk <;> exact absurd hk (by decide)
        · rw [if_neg hD] at hk
          rcases p_sg_rg (t (p_st t N a)) with q | ⟨-, q⟩ | ⟨-, q⟩ | ⟨-, q⟩ | ⟨-, q⟩ | ⟨-, q⟩ | ⟨-, q⟩ | ⟨-, q⟩ | ⟨-, q⟩ | ⟨-, q⟩ | ⟨-, q⟩ <;> (rw [q] at hk; exact absurd hk (by decide))
    have en : p_nx t N a = p_st t N a := by rw [p_nx, if_pos hst]
    rw [en]
    have hge : N ≤ p_st t N a := by omega
    have e2 : p_st t N (p_st t N a) = p_st t N a := by
      show p_ed p_W t N (p_st t N a) = _
      exact p_ed_n (by omega)
    rw [p_kd, e2, if_pos hst]
  have up : ∀ i, p_K t N i = 0 → p_K t N (i + 1) = 0 := fun i h => end' (p_at t N i) (p_at_le i) h
  have all : ∀ j, j < i → ¬ p_K t N j = 0 := by
    intro j hj q
    have : ∀ d, p_K t N (j + d) = 0 := by
      intro d
      induction d with
      | zero => exact q
      | succ d ih => exact up (j + d) ih
    have := this (i - j)
    rw [show j + (i - j) = i by omega] at this
    exact h this
  have h1 := p_at_ge (t := t) (N := N) i all
  have hst : p_st t N (p_at t N i) < N := by
    rcases Nat.lt_or_ge (p_st t N (p_at t N i)) N with q | q
    · exact q
    · exact absurd (by show p_kd t N (p_at t N i) = 0; rw [p_kd, if_pos (by omega)]) h
  have h2 : p_at t N i ≤ p_st t N (p_at t N i) := (p_ed_in (P := p_W)).1
  omega
