/-! What marks' codes reckon: the same in the class and in the model -/
/-- a stack of numbers over truths: how a code changes it -/
def y_st (x : Int32 × Int32) (s : Nat × Nat) : Option (Nat × Nat) :=
  if x.1 = 17 ∨ x.1 = 16 then (if s.1 + s.2 < 40 then some (s.1 + 1, s.2) else none)
  else if x.1 = 6 then (if 1 ≤ s.1 ∧ s.1 + s.2 < 40 then some s else none)
  else if x.1 = 3 ∨ x.1 = 4 ∨ x.1 = 5 then (if 2 ≤ s.1 then some (s.1 - 1, s.2) else none)
  else if x.1 = 9 ∨ x.1 = 10 ∨ x.1 = 11 then (if s.1 = 2 then some (0, s.2 + 1) else none)
  else if x.1 = 15 then (if s.1 = 0 ∧ s.1 + s.2 < 40 then some (0, s.2 + 1) else none)
  else if x.1 = 14 then (if s.1 = 0 ∧ 1 ≤ s.2 then some s else none)
  else (if s.1 = 0 ∧ 2 ≤ s.2 then some (0, s.2 - 1) else none)
def y_run : List (Int32 × Int32) → Nat × Nat → Option (Nat × Nat)
  | [], s => some s
  | x :: r, s => match y_st x s with
    | some s' => y_run r s'
    | none => none
/-- the two stacks agree -/
def y_R (a b : Nat) (st : List Int32) (ms : Int32) (st' : List (Int32 × Int32)) : Prop := ∃ A B, st' = A ++ B ∧ A.length = a ∧ B.length = b ∧ st = A.map Prod.fst ++ B.map Prod.fst ∧ (ms = 0 ↔ ∀ x ∈ A, ¬ x.2 = 0) ∧ ∀ x ∈ B, x.1 = 0 ∨ x.1 = 1 ∨ x.1 = 2
theorem y_R0 : y_R 0 0 [] 0 [] := ⟨[], [], rfl, rfl, rfl, rfl, by simp, by simp⟩
theorem z_b_0 {p : Prop} [Decidable p] : z_b p = 0 ↔ ¬ p := z_b_eq
theorem x_step_2 (kn : Int32 → Int32) {k v : Int32} (hk : x_op k) (h6 : ¬ k = 6) (x y : Int32) (r : List Int32) (ms : Int32) : x_step kn k v (y :: x :: r) ms = some ((@ite _ (¬ ms = 0 ∧ x_cmp k) (Classical.propDecidable _) 2 (x_join k x y)) :: r, @ite _ (¬ ms = 0 ∧ ¬ x_cmp k) (Classical.propDecidable _) 1 0) := by
  have n17 : ¬ k = 17 := fun q => by subst q; unfold x_op at hk; revert hk; decide
  have n16 : ¬ k = 16 := fun q => by subst q; unfold x_op at hk; revert hk; decide
  have n15 : ¬ k = 15 := fun q => by subst q; unfold x_op at hk; revert hk; decide
  have n14 : ¬ k = 14 := fun q => by subst q; unfold x_op at hk; revert hk; decide
  unfold x_step
  rw [if_neg n17, if_neg n16, if_neg n15, if_neg n14, if_neg h6]
  dsimp only
  rw [if_pos hk]
theorem x_join_and : ∀ x, x = 0 ∨ x = 1 ∨ x = 2 → ∀ y, y = 0 ∨ y = 1 ∨ y = 2 → x_join 13 x y = m_both x y ∧ x_join 12 x y = m_either x y ∧ (m_both x y = 0 ∨ m_both x y = 1 ∨ m_both x y = 2) ∧ (m_either x y = 0 ∨ m_either x y = 1 ∨ m_either x y = 2) := by
  rintro x (rfl | rfl | rfl) y (rfl | rfl | rfl) <;> decide
theorem x_not_ok : ∀ x, x = 0 ∨ x = 1 ∨ x = 2 → x_not x = (if x < 2 then 1 - x else x) ∧ (x_not x = 0 ∨ x_not x = 1 ∨ x_not x = 2) := by
  rintro x (rfl | rfl | rfl) <;> decide
/-- one code that joins -/
theorem y_sim2 (kn : Int32 → Int32) {k v : Int32} {A B : List (Int32 × Int32)} {ms : Int32} {a b a' b' : Nat} (hk : k = 3 ∨ k = 4 ∨ k = 5 ∨ k = 9 ∨ k = 10 ∨ k = 11 ∨ k = 12 ∨ k = 13 ∨ k = 14) (hy : y_st (k, v) (a, b) = some (a', b')) (hA : A.length = a) (hB : B.length = b) (hms : ms = 0 ↔ ∀ x ∈ A, ¬ x.2 = 0) (hb : ∀ x ∈ B, x.1 = 0 ∨ x.1 = 1 ∨ x.1 = 2) : ∃ st2 ms2 st2', x_step kn k v (A.map Prod.fst ++ B.map Prod.fst) ms = some (st2, ms2) ∧ (∀ rest, m_ev kn (p_f1 (k, v) ++ rest) (A ++ B) = m_ev kn rest st2') ∧ y_R a' b' st2 ms2 st2' := by
  -- two numbers
  have ar : ∀ w : Int32, (k = 3 ∨ k = 4 ∨ k = 5) → p_f1 (k, v) = [(w, v)] → (w = 2 ∨ w = 3 ∨ w = 4) → (∀ x y, x_join k x y = m_two w x y) → ∃ st2 ms2 st2', x_step kn k v (A.map Prod.fst ++ B.map Prod.fst) ms = some (st2, ms2) ∧ (∀ rest, m_ev kn (p_f1 (k, v) ++ rest) (A ++ B) = m_ev kn rest st2') ∧ y_R a' b' st2 ms2 st2' := by
    intro w h3 hf hw hj
    have hop : x_op k := by unfold x_op; rcases h3 with z | z | z <;> simp [z]
    have ncm : ¬ x_cmp k := by unfold x_cmp; rcases h3 with z | z | z <;> simp [z]
    have n5 : ¬ w = 5 := by rcases hw with z | z | z <;> (rw [z]; decide)
    have n6 : ¬ k = 6 := fun q => by rcases h3 with z | z | z <;> (rw [z] at q; exact absurd q (by decide))
    unfold y_st at hy
    dsimp only at hy
    rw [if_neg (fun q => by rcases h3 with z | z | z <;> (rw [z] at q; exact absurd q (by decide))), if_neg n6, if_pos h3] at hy
    by_cases hl : 2 ≤ a
    · rw [if_pos hl] at hy
      cases hy
      match A, hA with
      | [], hA => simp at hA; omega
      | [x], hA => simp at hA; omega
      | y :: x :: A, hA =>
        have hsn : (¬ x.2 = 0 ∧ ¬ y.2 = 0) ∨ ¬ (¬ x.2 = 0 ∧ ¬ y.2 = 0) := Classical.em _
        refine ⟨x_join k x.1 y.1 :: (A.map Prod.fst ++ B.map Prod.fst), @ite _ (¬ ms = 0 ∧ ¬ x_cmp k) (Classical.propDecidable _) 1 0, m_bin w x y :: (A ++ B), ?_, fun rest => ?_, m_bin w x y :: A, B, rfl, ?_, hB, ?_, ?_, hb⟩
        · show x_step kn k v (y.1 :: x.1 :: (A.map Prod.fst ++ B.map Prod.fst)) ms = _
          rw [x_step_2 kn hop n6, if_neg (fun q => ncm q.2)]
        · rw [hf]
          refine m_ev_c ?_
          show m_step kn (w, v) (y :: x :: (A ++ B)) = _
          rw [m_step_b (by rcases hw with z | z | z <;> simp [z]) (by rcases hw with z | z | z <;> simp [z]) (by rcases hw with z | z | z <;> simp [z]), if_neg (fun q => n5 q.1)]
        · simp at hA ⊢; omega
        · show _ :: _ = (m_bin w x y).1 :: _
          rw [hj]
          congr 1
          unfold m_bin
          rw [if_neg (fun q => by rcases hw with z | z | z <;> (rw [z] at q; exact absurd q.1 (by decide)))]
        · have e : (m_bin w x y).2 = z_b (¬ x.2 = 0 ∧ ¬ y.2 = 0) := rfl
          have h1 : (@ite _ (¬ ms = 0 ∧ ¬ x_cmp k) (Classical.propDecidable _) (1 : Int32) 0) = 0 ↔ ms = 0 := by
            by_cases q : ms = 0
            · rw [if_neg (fun z => z.1 q)]; exact ⟨fun _ => q, fun _ => rfl⟩
            · rw [if_pos ⟨q, ncm⟩]; exact ⟨fun z => absurd z (by decide), fun z => absurd z q⟩
          rw [h1, hms]
          constructor
          · intro h z hz
            rcases List.mem_cons.mp hz with rfl | hz
            · rw [e, z_b_ne]; exact ⟨h x (by simp), h y (by simp)⟩
            · exact h z (by simp [hz])
          · intro h z hz
            have h0 := h _ List.mem_cons_self
            rw [e, z_b_ne] at h0
            rcases List.mem_cons.mp hz with rfl | hz
            · exact h0.2
            · rcases List.mem_cons.mp hz with rfl | hz
              · exact h0.1
              · exact h z (List.mem_cons_of_mem _ hz)
    · rw [if_neg hl] at hy; cases hy
  -- two numbers compared
  have cm : ∀ w : Int32, (k = 9 ∨ k = 10 ∨ k = 11) → p_f1 (k, v) = [(w, v)] → (w = 6 ∨ w = 7 ∨ w = 8) → (∀ x y, x_join k x y = m_two w x y) → (∀ x y, m_two w x y = 0 ∨ m_two w x y = 1) → ∃ st2 ms2 st2', x_step kn k v (A.map Prod.fst ++ B.map Prod.fst) ms = some (st2, ms2) ∧ (∀ rest, m_ev kn (p_f1 (k, v) ++ rest) (A ++ B) = m_ev kn rest st2') ∧ y_R a' b' st2 ms2 st2' := by
    intro w h3 hf hw hj h01
    have hop : x_op k := by unfold x_op; rcases h3 with z | z | z <;> simp [z]
    have cmp : x_cmp k := h3
    have n5 : ¬ w = 5 := by rcases hw with z | z | z <;> (rw [z]; decide)
    have n6 : ¬ k = 6 := fun q => by rcases h3 with z | z | z <;> (rw [z] at q; exact absurd q (by decide))
    unfold y_st at hy
    dsimp only at hy
    rw [if_neg (fun q => by rcases h3 with z | z | z <;> (rw [z] at q; exact absurd q (by decide))), if_neg n6, if_neg (fun q => by rcases h3 with z | z | z <;> (rw [z] at q; exact absurd q (by decide))), if_pos h3] at hy
    by_cases hl : a = 2
    · rw [if_pos hl] at hy
      cases hy
      match A, hA with
      | [], hA => simp at hA; omega
      | [x], hA => simp at hA; omega
      | y :: x :: z :: A, hA => simp at hA; omega
      | [y, x], hA =>
        have hk2 : (¬ ms = 0) ↔ z_b (¬ x.2 = 0 ∧ ¬ y.2 = 0) = 0 := by
          rw [z_b_eq, hms]
          by_cases h1 : x.2 = 0 <;> by_cases h2 : y.2 = 0 <;> simp [h1, h2]
        have w6 : 6 ≤ w := by rcases hw with z | z | z <;> (rw [z]; decide)
        refine ⟨@ite _ (¬ ms = 0 ∧ x_cmp k) (Classical.propDecidable _) 2 (x_join k x.1 y.1) :: B.map Prod.fst, @ite _ (¬ ms = 0 ∧ ¬ x_cmp k) (Classical.propDecidable _) 1 0, m_bin w x y :: B, ?_, fun rest => ?_, [], m_bin w x y :: B, rfl, rfl, ?_, ?_, ?_, fun z hz => ?_⟩
        · show x_step kn k v (y.1 :: x.1 :: B.map Prod.fst) ms = _
          rw [x_step_2 kn hop n6]
        · rw [hf]
          refine m_ev_c ?_
          show m_step kn (w, v) (y :: x :: B) = _
          rw [m_step_b (by rcases hw with z | z | z <;> simp [z]) (by rcases hw with z | z | z <;> simp [z]) (by rcases hw with z | z | z <;> simp [z]), if_neg (fun q => n5 q.1)]
        · simp [hB]
        · show _ :: _ = (m_bin w x y).1 :: _
          congr 1
          unfold m_bin
          by_cases q : ms = 0
          · rw [if_neg (fun z => z.1 q), if_neg (fun z => (hk2.mpr z.2) q), hj]
          · rw [if_pos ⟨q, cmp⟩, if_pos ⟨w6, hk2.mp q⟩]
        · rw [if_neg (fun q => q.2 cmp)]
          simp
        · rcases List.mem_cons.mp hz with rfl | hz
          · unfold m_bin
            dsimp only
            split
            · exact Or.inr (Or.inr rfl)
            · rcases h01 x.1 y.1 with q | q
              · exact Or.inl q
              · exact Or.inr (Or.inl q)
          · exact hb z hz
    · rw [if_neg hl] at hy; cases hy
  -- two truths
  have tr : ∀ w : Int32, (k = 12 ∨ k = 13) → p_f1 (k, v) = [(w, v)] → (w = 10 ∨ w = 11) → (∀ x, x = 0 ∨ x = 1 ∨ x = 2 → ∀ y, y = 0 ∨ y = 1 ∨ y = 2 → x_join k x y = (if w = 10 then m_both x y else m_either x y) ∧ ((if w = 10 then m_both x y else m_either x y) = 0 ∨ (if w = 10 then m_both x y else m_either x y) = 1 ∨ (if w = 10 then m_both x y else m_either x y) = 2)) → ∃ st2 ms2 st2', x_step kn k v (A.map Prod.fst ++ B.map Prod.fst) ms = some (st2, ms2) ∧ (∀ rest, m_ev kn (p_f1 (k, v) ++ rest) (A ++ B) = m_ev kn rest st2') ∧ y_R a' b' st2 ms2 st2' := by
    intro w h3 hf hw hj
    have hop : x_op k := by unfold x_op; rcases h3 with z | z <;> simp [z]
    have ncm : ¬ x_cmp k := by unfold x_cmp; rcases h3 with z | z <;> simp [z]
    have n6 : ¬ k = 6 := fun q => by rcases h3 with z | z <;> (rw [z] at q; exact absurd q (by decide))
    unfold y_st at hy
    dsimp only at hy
    rw [if_neg (fun q => by rcases h3 with z | z <;> (rw [z] at q; exact absurd q (by decide))), if_neg n6, if_neg (fun q => by rcases h3 with z | z <;> (rw [z] at q; exact absurd q (by decide))), if_neg (fun q => by rcases h3 with z | z <;> (rw [z] at q; exact absurd q (by decide))), if_neg (fun q => by rcases h3 with z | z <;> (rw [z] at q; exact absurd q (by decide))), if_neg (fun q => by rcases h3 with z | z <;> (rw [z] at q; exact absurd q (by decide)))] at hy
    by_cases hl : a = 0 ∧ 2 ≤ b
    · rw [if_pos hl] at hy
      cases hy
      have eA : A = [] := List.length_eq_zero_iff.mp (by omega)
      subst eA
      have m0 : ms = 0 := hms.mpr (by simp)
      match B, hB, hb with
      | [], hB, _ => simp at hB; omega
      | [x], hB, _ => simp at hB; omega
      | y :: x :: B, hB, hb =>
        obtain ⟨j1, j2⟩ := hj x.1 (hb x (by simp)) y.1 (hb y (by simp))
        refine ⟨x_join k x.1 y.1 :: B.map Prod.fst, 0, (if w = 10 then m_both x.1 y.1 else m_either x.1 y.1, x.2) :: B, ?_, fun rest => ?_, [], (if w = 10 then m_both x.1 y.1 else m_either x.1 y.1, x.2) :: B, rfl, rfl, ?_, ?_, by simp, fun z hz => ?_⟩
        · show x_step kn k v (y.1 :: x.1 :: B.map Prod.fst) ms = _
          rw [x_step_2 kn hop n6, if_neg (fun q => ncm q.2), if_neg (fun q => q.1 m0)]
        · rw [hf]
          refine m_ev_c ?_
          show m_step kn (w, v) (y :: x :: B) = _
          rw [m_step_j (by rcases hw with z | z <;> simp [z]) (by rcases hw with z | z <;> simp [z]) hw]
        · simp at hB ⊢; omega
        · show _ :: _ = _ :: _
          rw [j1]
        · rcases List.mem_cons.mp hz with rfl | hz
          · exact j2
          · exact hb z (by simp [hz])
    · rw [if_neg hl] at hy; cases hy
  have zb01 : ∀ (p : Prop) [Decidable p], z_b p = 0 ∨ z_b p = 1 := fun p _ => z_b01 p
  rcases hk with rfl | rfl | rfl | rfl | rfl | rfl | rfl | rfl | rfl
  · exact ar 2 (by simp) rfl (by simp) (fun x y => rfl)
  · exact ar 3 (by simp) rfl (by simp) (fun x y => rfl)
  · exact ar 4 (by simp) rfl (by simp) (fun x y => rfl)
  · exact cm 6 (by simp) rfl (by simp) (fun x y => rfl) (fun x y => zb01 _)
  · exact cm 7 (by simp) rfl (by simp) (fun x y => rfl) (fun x y => zb01 _)
  · exact cm 8 (by simp) rfl (by simp) (fun x y => rfl) (fun x y => zb01 _)
  · exact tr 11 (by simp) rfl (by simp) (fun x hx y hy => by
      obtain ⟨q1, q2, q3, q4⟩ := x_join_and x hx y hy
      rw [if_neg (by decide)]
      exact ⟨q2, q4⟩)
  · exact tr 10 (by simp) rfl (by simp) (fun x hx y hy => by
      obtain ⟨q1, q2, q3, q4⟩ := x_join_and x hx y hy
      rw [if_pos rfl]
      exact ⟨q1, q3⟩)
  · unfold y_st at hy
    dsimp only at hy
    rw [if_neg (by decide), if_neg (by decide), if_neg (by decide), if_neg (by decide), if_neg (by decide), if_pos rfl] at hy
    by_cases hl : a = 0 ∧ 1 ≤ b
    · rw [if_pos hl] at hy
      cases hy
      have eA : A = [] := List.length_eq_zero_iff.mp (by omega)
      subst eA
      match B, hB, hb with
      | [], hB, _ => simp at hB; omega
      | x :: B, hB, hb =>
        obtain ⟨n1, n2⟩ := x_not_ok x.1 (hb x (by simp))
        refine ⟨x_not x.1 :: B.map Prod.fst, ms, (if x.1 < 2 then 1 - x.1 else x.1, x.2) :: B, ?_, fun rest => ?_, [], (if x.1 < 2 then 1 - x.1 else x.1, x.2) :: B, rfl, hA, hB, ?_, hms, fun z hz => ?_⟩
        · show x_step kn 14 v (x.1 :: B.map Prod.fst) ms = _
          unfold x_step
          rw [if_neg (by decide), if_neg (by decide), if_neg (by decide), if_pos rfl]
        · show m_ev kn ((9, v) :: rest) (x :: B) = _
          refine m_ev_c ?_
          rw [m_step_n (by simp) rfl]
        · show _ :: _ = _ :: _
          rw [n1]
        · rcases List.mem_cons.mp hz with rfl | hz
          · show (if x.1 < 2 then 1 - x.1 else x.1) = 0 ∨ (if x.1 < 2 then 1 - x.1 else x.1) = 1 ∨ (if x.1 < 2 then 1 - x.1 else x.1) = 2
            rw [← n1]; exact n2
          · exact hb z (by simp [hz])
    · rw [if_neg hl] at hy; cases hy
/-- one code -/
theorem y_sim (kn : Int32 → Int32) {x : Int32 × Int32} (hv : x_vc x) {a b a' b' : Nat} (hy : y_st x (a, b) = some (a', b')) {st : List Int32} {ms : Int32} {st' : List (Int32 × Int32)} (hR : y_R a b st ms st') : ∃ st2 ms2 st2', x_step kn x.1 x.2 st ms = some (st2, ms2) ∧ (∀ rest, m_ev kn (p_f1 x ++ rest) st' = m_ev kn rest st2') ∧ y_R a' b' st2 ms2 st2' := by
  obtain ⟨k, v⟩ := x
  obtain ⟨A, B, rfl, hA, hB, rfl, hms, hb⟩ := hR
  have hlen : (A.map Prod.fst ++ B.map Prod.fst).length = a + b := by simp [hA, hB]
  have hlen' : (A ++ B).length = a + b := by simp [hA, hB]
  unfold y_st at hy
  rcases hv with rfl | ⟨hk, hv⟩ | ⟨rfl, hv⟩ | hk
  · -- a number
    rw [if_pos (Or.inl rfl)] at hy
    by_cases hl : a + b < 40
    · rw [if_pos hl] at hy
      cases hy
      refine ⟨v :: (A.map Prod.fst ++ B.map Prod.fst), ms, (v, 1) :: (A ++ B), ?_, fun rest => ?_, (v, 1) :: A, B, rfl, by simp [hA], hB, rfl, ?_, hb⟩
      · unfold x_step
        dsimp only
        rw [if_pos rfl, if_pos (by rw [hlen]; exact hl)]
      · show m_ev kn ((0, v) :: rest) _ = _
        refine m_ev_c ?_
        rw [m_step_p (Or.inl rfl), if_pos (by rw [hlen']; omega)]
        rfl
      · rw [hms]
        simp
    · rw [if_neg hl] at hy; cases hy
  · rcases hk with rfl | rfl
    · -- a measure
      rw [if_pos (Or.inr rfl)] at hy
      by_cases hl : a + b < 40
      · rw [if_pos hl] at hy
        cases hy
        refine ⟨kn v :: (A.map Prod.fst ++ B.map Prod.fst), z_b (¬ ms = 0 ∨ kn v = -1), (kn v, z_b (¬ kn v = -1)) :: (A ++ B), ?_, fun rest => ?_, (kn v, z_b (¬ kn v = -1)) :: A, B, rfl, by simp [hA], hB, rfl, ?_, hb⟩
        · unfold x_step
          dsimp only
          rw [if_neg (by decide), if_pos rfl, if_pos ⟨by rw [hlen]; exact hl, hv⟩]
        · show m_ev kn ((1, v) :: rest) _ = _
          refine m_ev_c ?_
          rw [m_step_p (Or.inr (Or.inl rfl)), if_pos (by rw [hlen']; omega)]
          congr 2
          show (_, _) = (_, _)
          simp [m_push]
        · rw [z_b_eq, not_or, Classical.not_not, hms]
          constructor
          · rintro ⟨h1, h2⟩ x hx
            rcases List.mem_cons.mp hx with rfl | hx
            · show ¬ z_b (¬ kn v = -1) = 0
              rw [z_b_ne]; exact h2
            · exact h1 x hx
          · intro h1
            refine ⟨fun x hx => h1 x (List.mem_cons_of_mem _ hx), ?_⟩
            have := h1 _ List.mem_cons_self
            exact z_b_ne.mp this
      · rw [if_neg hl] at hy; cases hy
    · -- known
      rw [if_neg (by simp), if_neg (by simp), if_neg (by simp), if_neg (by simp), if_pos rfl] at hy
      by_cases hl : a = 0 ∧ a + b < 40
      · rw [if_pos hl] at hy
        cases hy
        obtain ⟨h0, hl⟩ := hl
        subst h0
        have eA : A = [] := List.length_eq_zero_iff.mp hA
        subst eA
        refine ⟨z_b (¬ kn v = -1) :: (B.map Prod.fst), ms, (z_b (¬ kn v = -1), 1) :: B, ?_, fun rest => ?_, [], (z_b (¬ kn v = -1), 1) :: B, rfl, rfl, by simp [hB], rfl, hms, ?_⟩
        · unfold x_step
          dsimp only
          rw [if_neg (by decide), if_neg (by decide), if_pos rfl, if_pos ⟨by rw [hlen]; omega, hv⟩]
          rfl
        · show m_ev kn ((12, v) :: rest) _ = _
          refine m_ev_c ?_
          rw [m_step_p (Or.inr (Or.inr rfl)), if_pos (by rw [hlen']; omega)]
          simp [m_push, z_b]
        · intro x hx
          rcases List.mem_cons.mp hx with rfl | hx
          · rcases z_b01 (¬ kn v = -1) with z | z
            · exact Or.inl z
            · exact Or.inr (Or.inl z)
          · exact hb x hx
      · rw [if_neg hl] at hy; cases hy
  · -- a part
    rw [if_neg (by simp), if_pos rfl] at hy
    by_cases hl : 1 ≤ a ∧ a + b < 40
    · rw [if_pos hl] at hy
      cases hy
      match A, hA with
      | [], hA => simp at hA; omega
      | x :: A, hA =>
        refine ⟨x.1 / v :: (A.map Prod.fst ++ B.map Prod.fst), ms, (x.1 / v, z_b (¬ x.2 = 0 ∧ ¬ (1 : Int32) = 0)) :: (A ++ B), ?_, fun rest => ?_, (x.1 / v, z_b (¬ x.2 = 0 ∧ ¬ (1 : Int32) = 0)) :: A, B, rfl, hA, hB, rfl, ?_, hb⟩
        · unfold x_step
          dsimp only
          rw [if_neg (by decide), if_neg (by decide), if_neg (by decide), if_neg (by decide), if_pos rfl]
          show (if v = 0 then none else some (x.1 / v :: (A.map Prod.fst ++ B.map Prod.fst), ms)) = _
          rw [if_neg hv]
        · show m_ev kn ((0, v) :: (5, 0) :: rest) _ = _
          rw [m_ev_c (st' := (v, 1) :: (x :: A ++ B)) (by rw [m_step_p (Or.inl rfl), if_pos (by rw [hlen']; omega)]; rfl)]
          refine m_ev_c ?_
          show m_step kn (5, 0) ((v, 1) :: x :: (A ++ B)) = _
          rw [m_step_b (by simp) (by simp) (by simp), if_neg (fun q => hv q.2)]
          rfl
        · rw [hms]
          constructor
          · intro h1 y hy
            rcases List.mem_cons.mp hy with rfl | hy
            · show ¬ z_b _ = 0
              rw [z_b_ne]
              exact ⟨h1 x List.mem_cons_self, by decide⟩
            · exact h1 y (List.mem_cons_of_mem _ hy)
          · intro h1 y hy
            rcases List.mem_cons.mp hy with rfl | hy
            · have := h1 _ List.mem_cons_self
              exact (z_b_ne.mp this).1
            · exact h1 y (List.mem_cons_of_mem _ hy)
    · rw [if_neg hl] at hy; cases hy
  · exact y_sim2 kn hk hy hA hB hms hb
/-- many codes -/
theorem y_sims (kn : Int32 → Int32) : ∀ (zs : List (Int32 × Int32)), (∀ x ∈ zs, x_vc x) → ∀ {a b a' b' : Nat}, y_run zs (a, b) = some (a', b') → ∀ {st : List Int32} {ms : Int32} {st' : List (Int32 × Int32)}, y_R a b st ms st' → ∃ st2 ms2 st2', x_ev kn zs st ms = some (st2, ms2) ∧ m_ev kn (p_fl zs) st' = some st2' ∧ y_R a' b' st2 ms2 st2'
  | [], _, a, b, a', b', hy, st, ms, st', hR => by
    cases hy
    exact ⟨st, ms, st', rfl, rfl, hR⟩
  | x :: r, hv, a, b, a', b', hy, st, ms, st', hR => by
    rw [y_run] at hy
    cases e : y_st x (a, b) with
    | none => rw [e] at hy; cases hy
    | some s =>
      rw [e] at hy
      obtain ⟨a1, b1⟩ := s
      obtain ⟨st2, ms2, st2', h1, h2, h3⟩ := y_sim kn (hv x List.mem_cons_self) e hR
      obtain ⟨st3, ms3, st3', g1, g2, g3⟩ := y_sims kn r (fun y hy => hv y (List.mem_cons_of_mem _ hy)) hy h3
      refine ⟨st3, ms3, st3', by rw [x_ev_c h1]; exact g1, ?_, g3⟩
      show m_ev kn ((x :: r).flatMap p_f1) st' = _
      rw [List.flatMap_cons, h2]
      exact g2
/-- the same in the model's codes -/
def y_sm (c : Int32 × Int32) (s : Nat × Nat) : Option (Nat × Nat) :=
  if c.1 = 0 ∨ c.1 = 1 then (if s.1 + s.2 < 40 then some (s.1 + 1, s.2) else none)
  else if c.1 = 2 ∨ c.1 = 3 ∨ c.1 = 4 ∨ c.1 = 5 then (if 2 ≤ s.1 then some (s.1 - 1, s.2) else none)
  else if c.1 = 6 ∨ c.1 = 7 ∨ c.1 = 8 then (if s.1 = 2 then some (0, s.2 + 1) else none)
  else if c.1 = 12 then (if s.1 = 0 ∧ s.1 + s.2 < 40 then some (0, s.2 + 1) else none)
  else if c.1 = 9 then (if s.1 = 0 ∧ 1 ≤ s.2 then some s else none)
  else (if s.1 = 0 ∧ 2 ≤ s.2 then some (0, s.2 - 1) else none)
def y_mr : List (Int32 × Int32) → Nat × Nat → Option (Nat × Nat)
  | [], s => some s
  | x :: r, s => match y_sm x s with
    | some s' => y_mr r s'
    | none => none
theorem y_mr_c {x : Int32 × Int32} {r : List (Int32 × Int32)} {s s' : Nat × Nat} (h : y_sm x s = some s') : y_mr (x :: r) s = y_mr r s' := by rw [y_mr, h]
theorem y_link : ∀ (zs : List (Int32 × Int32)), (∀ x ∈ zs, x_vc x) → ∀ s s', y_mr (p_fl zs) s = some s' → y_run zs s = some s'
  | [], _, s, s', h => h
  | x :: r, hv, s, s', h => by
    have ih := y_link r (fun y hy => hv y (List.mem_cons_of_mem _ hy))
    have hx := hv x List.mem_cons_self
    obtain ⟨k, v⟩ := x
    have h' : y_mr (p_f1 (k, v) ++ p_fl r) s = some s' := h
    have one : ∀ w : Int32, p_f1 (k, v) = [(w, v)] → y_sm (w, v) s = y_st (k, v) s → y_run ((k, v) :: r) s = some s' := by
      intro w hf he
      rw [hf] at h'
      rw [y_run]
      rw [← he]
      rw [List.cons_append, List.nil_append, y_mr] at h'
      cases e : y_sm (w, v) s with
      | none => rw [e] at h'; cases h'
      | some u => rw [e] at h'; exact ih u s' h'
    rcases hx with h1 | ⟨h1, -⟩ | ⟨h1, -⟩ | h1
    · dsimp only at h1; subst h1; exact one 0 rfl rfl
    · dsimp only at h1
      rcases h1 with rfl | rfl
      · exact one 1 rfl rfl
      · exact one 12 rfl rfl
    · dsimp only at h1
      subst h1
      have hf : p_f1 (6, v) = [(0, v), (5, 0)] := rfl
      rw [hf, List.cons_append, List.cons_append, List.nil_append] at h'
      rw [y_run]
      have e6 : y_st (6, v) s = if 1 ≤ s.1 ∧ s.1 + s.2 < 40 then some s else none := rfl
      rw [e6]
      by_cases hl : s.1 + s.2 < 40
      · rw [y_mr_c (s' := (s.1 + 1, s.2)) (by show (if s.1 + s.2 < 40 then some (s.1 + 1, s.2) else none) = _; rw [if_pos hl])] at h'
        by_cases h2 : 1 ≤ s.1
        · rw [y_mr_c (s' := s) (by show (if 2 ≤ s.1 + 1 then some (s.1 + 1 - 1, s.2) else none) = _; rw [if_pos (by omega)]; rfl)] at h'
          rw [if_pos ⟨h2, hl⟩]
          exact ih s s' h'
        · rw [y_mr, show y_sm (5, 0) (s.1 + 1, s.2) = none by show (if 2 ≤ s.1 + 1 then some (s.1 + 1 - 1, s.2) else none) = _; rw [if_neg (by omega)]] at h'
          cases h'
      · rw [y_mr, show y_sm (0, v) s = none by show (if s.1 + s.2 < 40 then some (s.1 + 1, s.2) else none) = _; rw [if_neg hl]] at h'
        cases h'
    · dsimp only at h1
      rcases h1 with rfl | rfl | rfl | rfl | rfl | rfl | rfl | rfl | rfl
      · exact one 2 rfl rfl
      · exact one 3 rfl rfl
      · exact one 4 rfl rfl
      · exact one 6 rfl rfl
      · exact one 7 rfl rfl
      · exact one 8 rfl rfl
      · exact one 11 rfl rfl
      · exact one 10 rfl rfl
      · exact one 9 rfl rfl
/-- what a mark says -/
def y_v (ys : List (Int32 × Int32)) (kn : Int32 → Int32) : Int32 := match m_ev kn ys [] with
  | some ((v, _) :: _) => v
  | _ => 0
theorem y_both {zs ys : List (Int32 × Int32)} (h : q_ok zs ys) (ht : y_mr ys (0, 0) = some (0, 1)) (kn : Int32 → Int32) : (∃ b, m_ev kn ys [] = some [(y_v ys kn, b)]) ∧ ∃ b, x_ev kn zs [] 0 = some ([y_v ys kn], b) := by
  obtain ⟨h1, h2⟩ := h
  subst h1
  obtain ⟨st2, ms2, st2', g1, g2, A, B, rfl, hA, hB, rfl, -⟩ := y_sims kn zs h2 (y_link zs h2 _ _ ht) y_R0
  have eA : A = [] := List.length_eq_zero_iff.mp hA
  subst eA
  match B, hB with
  | [(v, b)], _ =>
    have ev : y_v (p_fl zs) kn = v := by unfold y_v; rw [g2]; rfl
    rw [ev]
    exact ⟨⟨b, g2⟩, ms2, g1⟩
