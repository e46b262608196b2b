/-! THE LAW'S CALLS IN PAIRS: those that change the model -/
section LAW2
variable {l : Launch} {n : Nat} {K L : Nat → Nat} {I I' I2 : Nat → Nat → Int32} {J : Nat → Nat → Int64} {G : Nat → Nat → Value} {c F N : Nat} {tr : Nat → (Int32 → Int32) → Int32} {cd : Nat} {D : Nat → Nat} {ch rr u : Nat}
theorem l_st (hx : XI n K L I J G (mN I) c F N tr cd D ch rr) (hN : mN I' = mN I) : m_st I' c F N tr := by
  have h := hx.2.1.1
  rw [← hN] at h
  exact h
theorem mGd_mN {fk fq : Nat → Prop} (h1 : ∀ q, (72 ≤ q ∧ q ≤ 82) ∨ (90 ≤ q ∧ q ≤ 92) ∨ q = 97 → ¬ fq q → I2 q = I' q) (h2 : ∀ k, mQ k → ¬ fk k → I2 71 k = I' 71 k) : mGd fk fq (mN I') (mN I2) :=
  ⟨fun q hq hf => by rw [mN_at _ (by omega) (by omega), mN_at _ (by omega) (by omega)]; exact h1 q hq hf, h2⟩
theorem l_tq (X : Nat → Nat → Int32) {q : Nat} (h : q ≠ 71) : m_t X q = X q := z_u_ne h
theorem l_tk (X : Nat → Nat → Int32) {k : Nat} (h : ¬ k = 0) : m_t X 71 k = X 71 k := (z_u_at X 71 0 0 k).trans (if_neg h)
/-- find -/
theorem l116 (hx : XI n K L I J G (mN I) c F N tr cd D ch rr) (hr : rr < 600) (hu : u ≤ x_u L D) : lP l l_int 116 163 [] rr u (n, K, L, I, J, G) := by
  have hF := hx.fn
  by_cases h : F < 16
  · refine lP.pq ⟨_, rfl⟩ hu (by omega) ⟨by omega, by omega⟩ (d116a hx hr h) (fun n' K' L' I' J' G' hS hN => ⟨0, by omega, ?_⟩)
    have hst := l_st hx hN
    rw [← hN]
    have e : I' 71 1 = nI F := hst.2.2.1
    have e1 : I' 71 1 + 1 - 1 = nI F := by rw [e, nI_1, nI_pred]
    have k := c163b (l := l) (n := n') (J := J') hS (I := I') (by rw [e]; exact fun q => absurd ((nI_eq (b := 16) (by omega) (by omega)).mp q) (by omega))
    rw [e1] at k
    refine lM.p k (fun q hq => by rw [z_u_ne (by omega), l_tq _ (by omega)]) ⟨mGd_mN (fun q hq _ => by rw [z_u_ne (by omega), l_tq _ (by omega)]) (fun k hk h1 => by rw [z_u_at, if_neg h1, l_tk _ (by unfold mQ at hk; omega)]), ?_⟩
    show z_u (m_t I') 71 1 (I' 71 1 + 1) 71 1 = nI (F + 1)
    rw [z_u_at, if_pos rfl, e, nI_1]
  · refine lP.po hx ⟨_, rfl⟩ hu (by omega) ⟨by omega, by omega⟩ (d116b hx hr (by omega)) (fun n' K' L' I' J' G' hS hst hN => ⟨0, by omega, ?_⟩)
    exact lM.t (c163a hS (by rw [hst.2.2.1, show F = 16 by omega]; rfl))
/-- tell -/
theorem l117 (hx : XI n K L I J G (mN I) c F N tr cd D ch rr) (hr : rr < 600) (hu : u ≤ x_u L D) (k f m v d : Int32) : lP l l_int 117 164 [.int k, .int f, .int m, .int v, .int d] rr u (n, K, L, I, J, G) := by
  have hF := hx.fn
  by_cases h : (0 ≤ k ∧ k ≤ 1) ∧ (0 ≤ f ∧ f < nI F) ∧ (0 ≤ m ∧ m ≤ 5) ∧ (-1 ≤ v ∧ v ≤ 999) ∧ (0 ≤ d ∧ d ≤ 999) ∧ c < 400 ∧ (c = 0 ∨ mN I 76 (c - 1) ≤ d)
  · obtain ⟨h1, h2, h3, h4, h5, h6, h7⟩ := h
    obtain ⟨f', hf, rfl⟩ := l_nat h2.1 h2.2 (by omega)
    obtain ⟨m', hm, rfl⟩ := l_5 h3
    obtain ⟨k', hk, rfl⟩ := nI_of2 (n := 1) (x := k) (M := 1) (by decide) (Int32.not_lt.mpr h1.1) h1.2
    refine lP.pq ⟨_, rfl⟩ hu (by omega) ⟨by omega, by omega⟩ (d117a hx hr (show k' < 2 by omega) hf hm h4 h5 h6 h7) (fun n' K' L' I' J' G' hS hN => ⟨2, by omega, ?_⟩)
    have hst := l_st hx hN
    rw [← hN] at h7 ⊢
    refine lM.p (c164a hS hst.1 h1 (by rw [hst.2.2.1]; exact h2) h3 h4 h5 h6 h7) (fun q hq => ?_) ⟨mGd_mN (fun q hq h => ?_) (fun k hk h1 => ?_), ?_, fun t => ?_⟩
    · rw [z_u_ne (by omega), z_u_ne (by omega), z_u_ne (by omega), z_u_ne (by omega), z_u_ne (by omega), z_u_ne (by omega), l_tq _ (by omega)]
    · rw [z_u_ne (by omega), z_u_ne (by omega), z_u_ne (by omega), z_u_ne (by omega), z_u_ne (by omega), z_u_ne (by omega), l_tq _ (by omega)]
    · rw [z_u_at, if_neg h1, z_u_ne (by omega), z_u_ne (by omega), z_u_ne (by omega), z_u_ne (by omega), z_u_ne (by omega), l_tk _ (by unfold mQ at hk; omega)]
    · rw [mN_at _ (by omega) (by omega), z_u_at, if_pos rfl]
    · refine ⟨?_, ?_, ?_, ?_, ?_⟩
      · rw [mN_at _ (by omega) (by omega), mN_at _ (by omega) (by omega)]
        simp [z_u]
      · rw [mN_at _ (by omega) (by omega), mN_at _ (by omega) (by omega)]
        simp [z_u]
      · rw [mN_at _ (by omega) (by omega), mN_at _ (by omega) (by omega)]
        simp [z_u]
      · rw [mN_at _ (by omega) (by omega), mN_at _ (by omega) (by omega)]
        simp [z_u]
      · rw [mN_at _ (by omega) (by omega), mN_at _ (by omega) (by omega)]
        simp [z_u]
  · refine lP.po hx ⟨_, rfl⟩ hu (by omega) ⟨by omega, by omega⟩ (d117b hx hr h) (fun n' K' L' I' J' G' hS hst hN => ⟨2, by omega, ?_⟩)
    rw [← hN] at h
    exact lM.t (c164b hS hst.1 hst.2.1 (by rw [hst.2.2.1]; exact h))
/-- view -/
theorem l118 (hx : XI n K L I J G (mN I) c F N tr cd D ch rr) (hr : rr < 600) (hu : u ≤ x_u L D) (k d : Int32) : lP l l_int 118 165 [.int k, .int d] rr u (n, K, L, I, J, G) := by
  by_cases h : (0 ≤ k ∧ k ≤ 2) ∧ (0 ≤ d ∧ d ≤ 999)
  · refine lP.pq ⟨_, rfl⟩ hu (by omega) ⟨by omega, by omega⟩ (d118a hx hr h.1 h.2) (fun n' K' L' I' J' G' hS hN => ⟨2, by omega, ?_⟩)
    rw [← hN]
    refine lM.p (c165a hS h.1 h.2) (fun q hq => ?_) ⟨mGd_mN (fun q hq h => ?_) (fun k hk h1 => ?_), ?_, ?_⟩
    · rw [z_u_ne (by omega), z_u_ne (by omega), l_tq _ (by omega)]
    · rw [z_u_ne (by omega), z_u_ne (by omega), l_tq _ (by omega)]
    · rw [z_u_at, if_neg (by omega), z_u_at, if_neg (by omega), l_tk _ (by unfold mQ at hk; omega)]
    · show z_u (z_u (m_t I') 71 8 k) 71 9 d 71 8 = k
      rw [z_u_at, if_neg (by omega), z_u_at, if_pos rfl]
    · show z_u (z_u (m_t I') 71 8 k) 71 9 d 71 9 = d
      rw [z_u_at, if_pos rfl]
  · exact lP.po hx ⟨_, rfl⟩ hu (by omega) ⟨by omega, by omega⟩ (d118b hx hr h) (fun n' K' L' I' J' G' hS hst hN => ⟨2, by omega, lM.t (c165b hS h)⟩)
theorem l_p7 {X Y : Nat → Nat → Int32} (h : X 77 = Y 77) (t : Nat) (v : Int32) : m_put4 X t v 77 = m_put4 Y t v 77 := by
  funext k
  simp [m_put4, z_u, h]
theorem l_pq (X : Nat → Nat → Int32) (t : Nat) (v : Int32) {q : Nat} (h1 : q ≠ 77) (h2 : q ≠ 71) : m_put4 X t v q = X q := by
  unfold m_put4
  rw [z_u_ne h2, z_u_ne h1, z_u_ne h2, z_u_ne h1, z_u_ne h2, z_u_ne h1, z_u_ne h2, z_u_ne h1]
theorem l_pk (X : Nat → Nat → Int32) (t : Nat) (v : Int32) {k : Nat} (h : ¬ k = 11) : m_put4 X t v 71 k = X 71 k := by
  unfold m_put4
  simp [z_u, h]
theorem l_pt (X : Nat → Nat → Int32) (t : Nat) (v : Int32) : m_put4 X t v 71 11 = nI (t + 4) := by
  unfold m_put4
  rw [z_u_at, if_pos rfl]
/-- feed -/
theorem l120 (hx : XI n K L I J G (mN I) c F N tr cd D ch rr) (hr : rr < 600) (hu : u ≤ x_u L D) (a b c1 d e : Int32) : lP l l_int 120 170 [.int a, .int b, .int c1, .int d, .int e] rr u (n, K, L, I, J, G) := by
  obtain ⟨-, ⟨T, hT8, hT⟩, -⟩ := hx.2.2.2.2.1
  by_cases h : T ≤ 780
  · refine lP.pq ⟨_, rfl⟩ hu (by omega) ⟨by omega, by omega⟩ (d120a hx hr hT h a b c1 d e) (fun n' K' L' I' J' G' hS hN => ⟨1, by omega, ?_⟩)
    rw [← hN] at hT ⊢
    refine lM.p (c170a (I := I') hS hT h a b c1 d e) (fun q hq => ?_) ⟨mGd_mN (fun q hq h => ?_) (fun k hk h1 => ?_), ?_, ?_⟩
    · rw [l_pq _ _ _ (by omega) (by omega), l_pq _ _ _ (by omega) (by omega), l_pq _ _ _ (by omega) (by omega), l_pq _ _ _ (by omega) (by omega), l_pq _ _ _ (by omega) (by omega), l_tq _ (by omega)]
    · rw [l_pq _ _ _ (by omega) (by omega), l_pq _ _ _ (by omega) (by omega), l_pq _ _ _ (by omega) (by omega), l_pq _ _ _ (by omega) (by omega), l_pq _ _ _ (by omega) (by omega), l_tq _ (by omega)]
    · rw [l_pk _ _ _ h1, l_pk _ _ _ h1, l_pk _ _ _ h1, l_pk _ _ _ h1, l_pk _ _ _ h1, l_tk _ (by unfold mQ at hk; omega)]
    · rw [mN_at _ (by omega) (by omega), l_pt]
    · rw [mN_at _ (by omega) (by omega)]
      exact l_p7 (l_p7 (l_p7 (l_p7 (l_p7 ((l_tq I' (by omega)).trans (mN_at I' (by omega) (by omega)).symm) _ _) _ _) _ _) _ _) _ _
  · refine lP.po hx ⟨_, rfl⟩ hu (by omega) ⟨by omega, by omega⟩ (d120b hx hr hT h hT8 a b c1 d e) (fun n' K' L' I' J' G' hS hst hN => ⟨1, by omega, ?_⟩)
    rw [← hN] at hT
    exact lM.t (c170b (I := I') hS hT h hT8 a b c1 d e)
/-- end -/
theorem l121 (hx : XI n K L I J G (mN I) c F N tr cd D ch rr) (hr : rr < 600) (hu : u ≤ x_u L D) (t : Int32) : lP l l_int 121 171 [.int t] rr u (n, K, L, I, J, G) := by
  obtain ⟨-, ⟨T, hT8, hT⟩, -⟩ := hx.2.2.2.2.1
  by_cases h : 0 ≤ t ∧ t ≤ mN I 71 11
  · have h2 := h.2
    rw [hT] at h2
    obtain ⟨t', ht, rfl⟩ := nI_of2 (n := T) (x := t) (M := nI T) (nI_toInt (by omega)) (Int32.not_lt.mpr h.1) h2
    refine lP.pq ⟨_, rfl⟩ hu (by omega) ⟨by omega, by omega⟩ (d121a hx hr hT hT8 ht) (fun n' K' L' I' J' G' hS hN => ⟨1, by omega, ?_⟩)
    rw [← hN] at h ⊢
    refine lM.p (c171a (I := I') hS h) (fun q hq => ?_) ⟨mGd_mN (fun q hq h => ?_) (fun k hk h1 => ?_), ?_⟩
    · rw [z_u_ne (by omega), l_tq _ (by omega)]
    · rw [z_u_ne (by omega), l_tq _ (by omega)]
    · rw [z_u_at, if_neg h1, l_tk _ (by unfold mQ at hk; omega)]
    · show z_u (m_t I') 71 11 (nI t') 71 11 = nI t'
      rw [z_u_at, if_pos rfl]
  · refine lP.po hx ⟨_, rfl⟩ hu (by omega) ⟨by omega, by omega⟩ (d121b hx hr h) (fun n' K' L' I' J' G' hS hst hN => ⟨1, by omega, ?_⟩)
    rw [← hN] at h
    exact lM.t (c171b (I := I') hS h)
theorem l_f4 (h : m_f4 I' I2) : m_f4 (mN I') (mN I2) := by
  refine ⟨fun q a b c d e f => ?_, h.2⟩
  unfold mN
  rw [h.1 q a b c d e f]
/-- scales -/
theorem l122 (hx : XI n K L I J G (mN I) c F N tr cd D ch rr) (hr : rr < 600) (hu : u ≤ x_u L D) : lP l l_int 122 191 [] rr u (n, K, L, I, J, G) := by
  obtain ⟨-, ⟨T, hT8, hT⟩, -, hp⟩ := hx.2.2.2.2.1
  have hl := hx.2.1.2
  have hmm : ∀ I' : Nat → Nat → Int32, mN I' = mN I → m_tx I' (I' 77) T := fun I' hN => by
    rw [← hN] at hT hp hl
    exact ⟨hT, hT8, rfl, fun k _ => (hp k).1, hl⟩
  cases hR : r_rd (p_K (mN I 77) T) (p_A (mN I 77) T) 13 0 0 with
  | error e =>
    refine lP.pq ⟨_, rfl⟩ hu (by omega) ⟨by omega, by omega⟩ (d122a hx hr hT hT8 hR) (fun n' K' L' I' J' G' hS hN => ⟨9, by omega, ?_⟩)
    refine z_Ctr.mono (c191 hS (hmm I' hN)) (fun r h' q => ?_)
    obtain ⟨I2, rfl, q⟩ := q
    rw [← hN] at hR
    have hR' : r_rd (p_K (I' 77) T) (p_A (I' 77) T) 13 0 0 = .error e := hR
    rw [hR'] at q
    refine ⟨q.2.2.1, I2, rfl, fun q' hq => q.1.1 q' (by omega) (by omega) (by omega) (by omega) (by omega) (by omega), r, ?_⟩
    rw [← hN]
    exact ⟨l_f4 q.1, q.2⟩
  | ok Z =>
    refine lP.pq ⟨_, rfl⟩ hu (by omega) ⟨by omega, by omega⟩ (d122b hx hr hT hT8 hR) (fun n' K' L' I' J' G' hS hN => ⟨9, by omega, ?_⟩)
    refine z_Ctr.mono (c191 hS (hmm I' hN)) (fun r h' q => ?_)
    obtain ⟨I2, rfl, q⟩ := q
    rw [← hN] at hR
    have hR' : r_rd (p_K (I' 77) T) (p_A (I' 77) T) 13 0 0 = .ok Z := hR
    rw [hR'] at q
    refine ⟨q.2.2.1, I2, rfl, fun q' hq => q.1.1 q' (by omega) (by omega) (by omega) (by omega) (by omega) (by omega), r, ?_⟩
    rw [← hN]
    exact ⟨l_f4 q.1, q.2⟩
/-- cost -/
theorem l144 (hx : XI n K L I J G (mN I) c F N tr cd D ch rr) (hr : rr < 600) (hu : u ≤ x_u L D) (i p : Int32) : lP l l_int 144 235 [.int i, .int p] rr u (n, K, L, I, J, G) := by
  have e11 : i ≤ 11 ↔ i < 12 := by
    simp only [Int32.lt_iff_toInt_lt, Int32.le_iff_toInt_le]
    have h1 : (11 : Int32).toInt = 11 := by decide
    have h2 : (12 : Int32).toInt = 12 := by decide
    omega
  by_cases h : (0 ≤ i ∧ i < 12) ∧ (1 ≤ p ∧ p ≤ 9)
  · obtain ⟨i', hi, rfl⟩ := l_nat (F := 12) h.1.1 h.1.2 (by omega)
    obtain ⟨p', hp9, rfl⟩ := nI_of2 (n := 9) (x := p) (M := 9) (by decide) (Int32.not_lt.mpr (Int32.le_trans (by decide) h.2.1)) h.2.2
    have hp1 : 1 ≤ p' := by
      rcases Nat.lt_or_ge p' 1 with q | q
      · have h3 := h.2.1
        rw [show p' = 0 by omega] at h3
        exact absurd h3 (by decide)
      · exact q
    refine lP.pq ⟨_, rfl⟩ hu (by omega) ⟨by omega, by omega⟩ (d144a hx hr hi ⟨hp1, hp9⟩) (fun n' K' L' I' J' G' hS hN => ⟨1, by omega, ?_⟩)
    rw [← hN]
    have k := c235a (l := l) (n := n') (J := J') (I := I') hS (i := nI i') (c := nI p') ⟨h.1.1, e11.mpr h.1.2⟩ h.2
    rw [nI_clamp (by omega)] at k
    refine lM.p k (fun q hq => ?_) ⟨mGd_mN (fun q hq h => ?_) (fun k hk h1 => ?_), fun k => ?_⟩
    · rw [z_u_ne (by omega), l_tq _ (by omega)]
    · rw [z_u_ne (by omega), l_tq _ (by omega)]
    · rw [z_u_ne (by omega), l_tk _ (by unfold mQ at hk; omega)]
    · show z_u (m_t I') 97 i' (nI p') 97 k = if k = i' then nI p' else I' 97 k
      rw [z_u_at, l_tq _ (by omega)]
  · exact lP.po hx ⟨_, rfl⟩ hu (by omega) ⟨by omega, by omega⟩ (d144b hx hr h) (fun n' K' L' I' J' G' hS hst hN => ⟨1, by omega, lM.t (c235b hS (by rw [e11]; exact h))⟩)
end LAW2
