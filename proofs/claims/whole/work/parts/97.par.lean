/-! The model's reader: tokens told apart, codes put down, units -/
theorem p_sg_rg (v : Int32) : p_sg v = 1 ∨ (v = 59 ∧ p_sg v = 2) ∨ (v = 43 ∧ p_sg v = 3) ∨ (v = 45 ∧ p_sg v = 4) ∨ (v = 42 ∧ p_sg v = 5) ∨ (v = 47 ∧ p_sg v = 6) ∨ (v = 40 ∧ p_sg v = 7) ∨ (v = 41 ∧ p_sg v = 8) ∨ (v = 60 ∧ p_sg v = 9) ∨ (v = 61 ∧ p_sg v = 10) ∨ (v = 62 ∧ p_sg v = 11) := by
  by_cases h : m_sign v
  · unfold m_sign at h
    rcases h with h | h | h | h | h | h | h | h | h | h <;> subst h <;> simp [p_sg]
  · exact Or.inl (p_sg_1.mpr h)
theorem t_me {tok val kd am : Int32} (h : p_tk tok val kd am) : (tok = 2 ∧ val < 6) ↔ kd = 16 := by
  rcases h with ⟨rfl, rfl⟩ | ⟨rfl, rfl⟩ | ⟨rfl, rfl, rfl, h1, h2⟩ | ⟨h0, rfl, h1⟩ | ⟨rfl, rfl, rfl⟩ | ⟨h0, rfl, h1⟩
  · simp
  · simp
  · simp [h2]
  · rcases h0 with rfl | rfl | rfl | rfl
    · have : val = 6 := by have : val = val + 6 - 6 := by grind
                           rw [this, h1]; decide
      subst this; simp
    · have : val = 7 := by have : val = val + 6 - 6 := by grind
                           rw [this, h1]; decide
      subst this; simp
    · have : val = 8 := by have : val = val + 6 - 6 := by grind
                           rw [this, h1]; decide
      subst this; simp
    · have : val = 9 := by have : val = val + 6 - 6 := by grind
                           rw [this, h1]; decide
      subst this; simp
  · simp
  · rcases p_sg_rg val with q | ⟨-, q⟩ | ⟨-, q⟩ | ⟨-, q⟩ | ⟨-, q⟩ | ⟨-, q⟩ | ⟨-, q⟩ | ⟨-, q⟩ | ⟨-, q⟩ | ⟨-, q⟩ | ⟨-, q⟩ <;> (rw [q] at h1; subst h1; simp)
theorem t_nu {tok val kd am : Int32} (h : p_tk tok val kd am) : tok = 3 ↔ kd = 17 := by
  rcases h with ⟨rfl, rfl⟩ | ⟨rfl, rfl⟩ | ⟨rfl, rfl, rfl, h1, h2⟩ | ⟨h0, rfl, h1⟩ | ⟨rfl, rfl, rfl⟩ | ⟨h0, rfl, h1⟩
  · simp
  · simp
  · simp
  · rcases h0 with rfl | rfl | rfl | rfl <;> simp
  · simp
  · rcases p_sg_rg val with q | ⟨-, q⟩ | ⟨-, q⟩ | ⟨-, q⟩ | ⟨-, q⟩ | ⟨-, q⟩ | ⟨-, q⟩ | ⟨-, q⟩ | ⟨-, q⟩ | ⟨-, q⟩ | ⟨-, q⟩ <;> (rw [q] at h1; subst h1; simp)
theorem t_end {tok val kd am : Int32} (h : p_tk tok val kd am) : tok = 0 ↔ kd = 0 := by
  rcases h with ⟨rfl, rfl⟩ | ⟨rfl, rfl⟩ | ⟨rfl, rfl, rfl, h1, h2⟩ | ⟨h0, rfl, h1⟩ | ⟨rfl, rfl, rfl⟩ | ⟨h0, rfl, h1⟩
  · simp
  · simp
  · simp
  · rcases h0 with rfl | rfl | rfl | rfl <;> simp
  · simp
  · rcases p_sg_rg val with q | ⟨-, q⟩ | ⟨-, q⟩ | ⟨-, q⟩ | ⟨-, q⟩ | ⟨-, q⟩ | ⟨-, q⟩ | ⟨-, q⟩ | ⟨-, q⟩ | ⟨-, q⟩ | ⟨-, q⟩ <;> (rw [q] at h1; subst h1; simp)
theorem t_wd {tok val kd am w k : Int32} (h : p_tk tok val kd am) (hw : w + 6 = k) (hk : k = 12 ∨ k = 13 ∨ k = 14 ∨ k = 15) : (tok = 2 ∧ val = w) ↔ kd = k := by
  have ew : w = k - 6 := by rw [← hw]; grind
  rcases h with ⟨rfl, rfl⟩ | ⟨rfl, rfl⟩ | ⟨rfl, rfl, rfl, h1, h2⟩ | ⟨h0, rfl, h1⟩ | ⟨rfl, rfl, rfl⟩ | ⟨h0, rfl, h1⟩
  · rcases hk with rfl | rfl | rfl | rfl <;> simp
  · rcases hk with rfl | rfl | rfl | rfl <;> simp
  · constructor
    · rintro ⟨-, q⟩
      rw [q, ew] at h2
      rcases hk with rfl | rfl | rfl | rfl <;> exact absurd h2 (by decide)
    · intro q
      rcases hk with rfl | rfl | rfl | rfl <;> exact absurd q (by decide)
  · constructor
    · rintro ⟨-, q⟩
      rw [← h1, q, hw]
    · intro q
      refine ⟨rfl, ?_⟩
      rw [ew, ← q, ← h1]
      grind
  · rcases hk with rfl | rfl | rfl | rfl <;> simp
  · constructor
    · rintro ⟨q, -⟩
      exact absurd q (by decide)
    · intro q
      rcases p_sg_rg val with z | ⟨-, z⟩ | ⟨-, z⟩ | ⟨-, z⟩ | ⟨-, z⟩ | ⟨-, z⟩ | ⟨-, z⟩ | ⟨-, z⟩ | ⟨-, z⟩ | ⟨-, z⟩ | ⟨-, z⟩ <;> (rw [z] at h1; subst h1; rcases hk with rfl | rfl | rfl | rfl <;> exact absurd q (by decide))
theorem t_sg {tok val kd am c : Int32} (h : p_tk tok val kd am) (hc : m_sign c) : (tok = 4 ∧ val = c) ↔ kd = p_sg c := by
  have hn : ¬ p_sg c = 1 := fun q => p_sg_1.mp q hc
  have rg := p_sg_rg c
  rcases h with ⟨rfl, rfl⟩ | ⟨rfl, rfl⟩ | ⟨rfl, rfl, rfl, h1, h2⟩ | ⟨h0, rfl, h1⟩ | ⟨rfl, rfl, rfl⟩ | ⟨h0, rfl, h1⟩
  · constructor
    · rintro ⟨q, -⟩; exact absurd q (by decide)
    · intro q
      rcases rg with z | ⟨-, z⟩ | ⟨-, z⟩ | ⟨-, z⟩ | ⟨-, z⟩ | ⟨-, z⟩ | ⟨-, z⟩ | ⟨-, z⟩ | ⟨-, z⟩ | ⟨-, z⟩ | ⟨-, z⟩ <;> (rw [z] at q; exact absurd q (by decide))
  · constructor
    · rintro ⟨q, -⟩; exact absurd q (by decide)
    · intro q; exact absurd q.symm hn
  · constructor
    · rintro ⟨q, -⟩; exact absurd q (by decide)
    · intro q
      rcases rg with z | ⟨-, z⟩ | ⟨-, z⟩ | ⟨-, z⟩ | ⟨-, z⟩ | ⟨-, z⟩ | ⟨-, z⟩ | ⟨-, z⟩ | ⟨-, z⟩ | ⟨-, z⟩ | ⟨-, z⟩ <;> (rw [z] at q; exact absurd q (by decide))
  · constructor
    · rintro ⟨q, -⟩; exact absurd q (by decide)
    · intro q
      rcases rg with z | ⟨-, z⟩ | ⟨-, z⟩ | ⟨-, z⟩ | ⟨-, z⟩ | ⟨-, z⟩ | ⟨-, z⟩ | ⟨-, z⟩ | ⟨-, z⟩ | ⟨-, z⟩ | ⟨-, z⟩ <;> (rw [z] at q; rcases h0 with rfl | rfl | rfl | rfl <;> exact absurd q (by decide))
  · constructor
    · rintro ⟨q, -⟩; exact absurd q (by decide)
    · intro q
      rcases rg with z | ⟨-, z⟩ | ⟨-, z⟩ | ⟨-, z⟩ | ⟨-, z⟩ | ⟨-, z⟩ | ⟨-, z⟩ | ⟨-, z⟩ | ⟨-, z⟩ | ⟨-, z⟩ | ⟨-, z⟩ <;> (rw [z] at q; exact absurd q (by decide))
  · constructor
    · rintro ⟨-, q⟩
      rw [← h1, q]
    · intro q
      refine ⟨rfl, ?_⟩
      rw [← h1] at q
      rcases p_sg_rg val with z | ⟨a, z⟩ | ⟨a, z⟩ | ⟨a, z⟩ | ⟨a, z⟩ | ⟨a, z⟩ | ⟨a, z⟩ | ⟨a, z⟩ | ⟨a, z⟩ | ⟨a, z⟩ | ⟨a, z⟩
      · rw [z] at q; exact absurd q.symm hn
      all_goals
        rw [z] at q
        rcases rg with y | ⟨b, y⟩ | ⟨b, y⟩ | ⟨b, y⟩ | ⟨b, y⟩ | ⟨b, y⟩ | ⟨b, y⟩ | ⟨b, y⟩ | ⟨b, y⟩ | ⟨b, y⟩ | ⟨b, y⟩ <;> first
          | (rw [y] at q; exact absurd q (by decide))
          | (rw [a, b])
