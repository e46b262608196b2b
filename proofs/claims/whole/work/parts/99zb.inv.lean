/-! THE INVARIANT: what the class's places hold, held against the model's ints M -/
def a_ge (v : Int32) (ch : Nat) : Prop := v = -1 ∨ ∃ a, a ≤ ch ∧ v = nI a
def p_w2 (b s : Nat) : Prop := s = 0 ∨ ∃ e, e ≤ b ∧ s = 2 ^ e
/-- the ten arrays that grow: owner, slot, first place, kind, greatest size -/
def d_tb : List (Nat × Nat × Nat × Nat × Nat) := [(22, 2, 23, 13, 12), (22, 3, 24, 13, 12), (22, 6, 25, 13, 12), (22, 7, 26, 13, 12), (28, 2, 29, 13, 12), (28, 3, 30, 13, 12), (28, 6, 31, 13, 12), (28, 7, 32, 13, 12), (38, 9, 42, 14, 16), (53, 4, 57, 13, 16)]
def XDy (n : Nat) (K L : Nat → Nat) (G : Nat → Nat → Value) (D : Nat → Nat) : Prop := (∀ i r, d_tb[i]? = some r → G r.1 r.2.1 = .ref (D i) ∧ K (D i) = r.2.2.2.1 ∧ p_w2 r.2.2.2.2 (L (D i)) ∧ (D i = r.2.2.1 ∨ 103 ≤ D i) ∧ D i < n) ∧ (∀ i j, i < 10 → j < 10 → D i = D j → i = j) ∧ L (D 1) = L (D 0) ∧ L (D 3) = L (D 2) ∧ L (D 5) = L (D 4) ∧ L (D 7) = L (D 6)
/-- what arrays have cost so far, at most -/
def x_u (L : Nat → Nat) (D : Nat → Nat) : Nat := 4 * L (D 0) + 4 * L (D 2) + 4 * L (D 4) + 4 * L (D 6) + 2 * L (D 8) + 2 * L (D 9)
section INV
variable (L : Nat → Nat) (I : Nat → Nat → Int32) (J : Nat → Nat → Int64) (D : Nat → Nat) (M : Nat → Nat → Int32) (c F N : Nat) (tr : Nat → (Int32 → Int32) → Int32)
def x_led : Prop := I 6 3 = nI c ∧ l_ok I M c
def x_tab (cd ch : Nat) : Prop := I 10 0 = nI F ∧ I 10 1 = M 71 8 ∧ I 10 2 = M 71 9 ∧ (M 71 8 = 0 ∨ M 71 8 = 1 ∨ M 71 8 = 2) ∧ l_kv I M c 11 (M 71 9) ∧ x_scale I cd N tr ∧ (∀ i, i < N → ∀ kn, tr i kn = 0 ∨ tr i kn = 1 ∨ tr i kn = 2) ∧ x_fr I N F tr ∧ (∀ f, F ≤ f → I 18 f = 0) ∧ I 10 10 = nI ch
def x_tap : Prop := I 5 8 = M 71 11 ∧ (∃ T, T ≤ 800 ∧ M 71 11 = nI T) ∧ I 59 = M 77 ∧ ∀ k, 0 ≤ M 77 k ∧ M 77 k ≤ 255
def x_flt : Prop := I 60 2 = M 71 28 ∧ I 60 3 = M 71 29
/-- the closure backwards -/
abbrev x_cl (mode s : Int32) : Int32 := m_clo (fun f => x_bw (mR M c N tr mode f) N) s (nI (2 ^ N) - 1) F
def x_lat (lp b : Nat) (mode : Int32) (ch : Nat) : Prop := a_ge (I lp 5) ch ∧ a_ge (I lp 9) ch ∧ (I lp 5 = nI ch → I lp 0 = nI N ∧ I lp 1 = nI (2 ^ N) ∧ 2 ^ N ≤ L (D b) ∧ (∀ s, s < 2 ^ N → I (D b) s = x_cl M c F N tr mode (nI s)) ∧ I lp 4 = nI (m_cl nI (x_cl M c F N tr mode) (2 ^ N)).length ∧ m_lst (I (D (b + 1))) (m_cl nI (x_cl M c F N tr mode) (2 ^ N))) ∧ (I lp 9 = nI ch → I lp 5 = nI ch ∧ 2 ^ N ≤ L (D (b + 2)) ∧ I lp 8 = nI (m_rl nI (x_cl M c F N tr mode) (2 ^ N)).length ∧ m_lst (I (D (b + 3))) ((m_rl nI (x_cl M c F N tr mode) (2 ^ N)).map Prod.fst))
def x_exq : Prop := (I 34 0 = 0 ∧ M 71 38 = 0 ∧ ∃ A, I 34 7 = nI A ∧ A ≤ 60) ∨ (¬ I 34 0 = 0 ∧ ¬ M 71 38 = 0 ∧ ∃ EN E A v0, x_ex I EN E A v0 ∧ x_ah I EN E A v0 ∧ m_ex M EN E A ∧ (∀ e, e < E → b_in EN (M 90 e) ∧ I 35 e = x_bw (M 90 e) EN) ∧ ∀ k, k < A → b_in EN (M 91 k) ∧ b_in EN (M 92 k) ∧ I 36 k = x_bw (M 91 k) EN ∧ I 37 k = x_bw (M 92 k) EN)
def x_sez (ch rr : Nat) : Prop := ∃ R, J 38 10 = lN R ∧ R ≤ rr ∧ a_ge (I 38 0) ch ∧ (∀ q, q < L (D 8) → ∃ r v, r ≤ R ∧ v < 2 ^ 45 ∧ J (D 8) q = lN (r * 2 ^ 45 + v)) ∧ (I 38 0 = nI ch → ∃ fs bc, x_pz I (mR M c N tr (I 38 1)) (I 38 2) (I 38 3) fs bc ∧ 2 ^ s_rk (zb (I 38 2)) 16 ≤ L (D 8) ∧ s_memo J (D 8) (L (D 8)) (s_rk (zb (I 38 2)) 16) R (xV I (s_rk (zb (I 38 2)) 16) bc))
def x_crz (ch : Nat) : Prop := a_ge (I 43 0) ch ∧ (I 43 0 = nI ch → ∃ fs be, x_pc I (mR M c N tr (I 43 1)) (I 43 2) (I 43 3) fs be ∧ s_rk (zb (I 43 2)) 16 ≤ 8)
def x_kyz (ch rr : Nat) : Prop := (∀ i, i < 12 → I 54 i = M 97 i ∧ ∃ p, 1 ≤ p ∧ p ≤ 9 ∧ M 97 i = nI p) ∧ ∃ R, I 53 5 = nI R ∧ R ≤ rr ∧ a_ge (I 53 6) ch ∧ (∀ t, t < L (D 9) → ∃ r, r ≤ R ∧ k_rd (I (D 9) t) = nI r) ∧ (I 53 6 = nI ch → I 53 3 = nI N ∧ 2 ^ F ≤ L (D 9) ∧ (∀ i, i < N → I 55 i = mYs M c F tr 1 i ∧ I 56 i = mYs M c F tr 2 i) ∧ k_memo I (D 9) (L (D 9)) N R (mYs M c F tr 1) (mYs M c F tr 2) (M 97))
end INV
/-- the whole -/
def XI (n : Nat) (K L : Nat → Nat) (I : Nat → Nat → Int32) (J : Nat → Nat → Int64) (G : Nat → Nat → Value) (M : Nat → Nat → Int32) (c F N : Nat) (tr : Nat → (Int32 → Int32) → Int32) (cd : Nat) (D : Nat → Nat) (ch rr : Nat) : Prop :=
  (SS K L G ∧ XC G cd ∧ 103 ≤ n ∧ XDy n K L G D ∧ ch ≤ rr ∧ rr ≤ 600) ∧ (m_st M c F N tr ∧ p_lay (M 78) 0 p_ws) ∧ x_led I M c ∧ x_tab I M c F N tr cd ch ∧ x_tap I M ∧ x_flt I M ∧ x_lat L I D M c F N tr 22 0 0 ch ∧ x_lat L I D M c F N tr 28 4 1 ch ∧ x_exq I M ∧ x_sez L I J D M c N tr ch rr ∧ x_crz I M c N tr ch ∧ x_kyz L I D M c F N tr ch rr
