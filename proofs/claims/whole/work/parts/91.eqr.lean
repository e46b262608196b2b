/-! Rows and crosses: the class's are the model's -/
/-- a block that another list has, or that binds nothing -/
def s_okb (n : Nat) (b : Nat → Bool) (B : List (Nat → Bool)) : Prop := (∃ c ∈ B, ∀ p, p < n → b p = c p) ∨ (∀ p q, p < n → q < n → b p = true → b q = true → p = q) ∨ ∀ p, p < n → b p = true
theorem s_op_blk1 {n : Nat} {B B' : List (Nat → Bool)} (h : ∀ b ∈ B, s_okb n b B') {u : Nat → Bool} {p : Nat} (hp : p < n) (ho : s_op n B' u p) : s_op n B u p := by
  refine ⟨ho.1, fun b hb hd => ?_⟩
  rcases h b hb with ⟨c, hc, e⟩ | q | q
  · rw [e p hp]
    refine ho.2 c hc ?_
    obtain ⟨⟨x, x1, x2, x3⟩, ⟨y, y1, y2, y3⟩⟩ := hd
    exact ⟨⟨x, x1, by rw [← e x x1]; exact x2, x3⟩, ⟨y, y1, by rw [← e y y1]; exact y2, y3⟩⟩
  · obtain ⟨⟨x, x1, x2, x3⟩, ⟨y, y1, y2, y3⟩⟩ := hd
    rw [q x y x1 y1 x2 y2, y3] at x3
    cases x3
  · exact q p hp
theorem s_op_blk2 {n : Nat} {B B' : List (Nat → Bool)} (h1 : ∀ b ∈ B, s_okb n b B') (h2 : ∀ b ∈ B', s_okb n b B) (u : Nat → Bool) (p : Nat) (hp : p < n) : s_op n B u p ↔ s_op n B' u p := ⟨s_op_blk1 h2 hp, s_op_blk1 h1 hp⟩
theorem s_at_lt {n : Nat} {B : List (Nat → Bool)} : ∀ (i : Nat) (u : Nat → Bool) (left : Nat), left < s_V n B u → i < s_n u n → s_at n B i u left < n
  | 0, u, left, hl, hi => by
    rw [s_at]
    exact (s_p_ok hl (by omega)).1
  | i + 1, u, left, hl, hi => by
    obtain ⟨a, b, c, d⟩ := s_p_ok hl (show s_n u n ≠ 0 by omega)
    have := s_n_add a b.1
    rw [s_at]
    exact s_at_lt i _ _ d (by omega)
/-- the rows of both -/
def e_rw (F N : Nat) (rm rx : Nat → Int32) : Prop := (∀ g, g < F → ∀ i, i < N → zb (rm g) i = zb (rx g) i)
section EQR
variable {I : Nat → Nat → Int32} {rm rx : Nat → Int32} {marks : Int32} {F N s bc : Nat} {fs : Nat → Nat}
theorem e_rk (hF : F ≤ 16) (hs : s < 2 ^ F) : s_rk (zb (nI s)) 16 = s_rk (zb (nI s)) F := s_rk_ext (fun p hp => zb_of hF hs hp) hF
theorem e_fs (hF : F ≤ 16) (h : s_fs 16 (zb (nI s)) fs) : s_fs F (zb (nI s)) fs := fun f hf hb => h f (by omega) hb
theorem e_ho (hF : F ≤ 16) (hN : N ≤ 12) (hs : s < 2 ^ F) (hr : e_rw F N rm rx) (hfs : s_fs 16 (zb (nI s)) fs) {i p : Nat} (hi : i < N) (hp : p < s_rk (zb (nI s)) 16) : zb (m_ho rm (nI s) marks F i) (fs p) = (zb marks i && zb (rx (fs p)) i) := by
  rw [e_rk hF hs] at hp
  obtain ⟨f1, f2, f3⟩ := (e_fs hF hfs).at hp
  rw [m_ho]
  cases e : zb marks i with
  | false => rw [if_pos ((zb_get0 (by omega)).mpr e), zb_0]; rfl
  | true =>
    rw [if_neg (fun z => by rw [(zb_get0 (by omega)).mp z] at e; cases e), ← hr _ f1 i hi]
    cases e2 : zb (rm (fs p)) i with
    | true => exact (m_hold_b hF).mpr ⟨f1, f2, (zb_get1 (by omega)).mpr e2⟩
    | false =>
      cases e3 : zb (m_hold rm (nI s) i F) (fs p) with
      | false => rfl
      | true =>
        have := ((m_hold_b hF).mp e3).2.2
        rw [(zb_get1 (by omega)).mp this] at e2
        cases e2
theorem e_hs (hF : F ≤ 16) {i f : Nat} (h : zb (m_ho rm (nI s) marks F i) f = true) : zb (nI s) f = true := by
  rw [m_ho] at h
  by_cases e : marks >>> (nI i &&& 31) &&& 1 = 0
  · rw [if_pos e, zb_0] at h; cases h
  · rw [if_neg e] at h
    exact ((m_hold_b hF).mp h).2.1
/-- what may stand next is the same -/
theorem e_op (hF : F ≤ 16) (hN : N ≤ 12) (hs : s < 2 ^ F) (hr : e_rw F N rm rx) (hmk : ∀ i, N ≤ i → zb marks i = false) (hz : x_pz I rx (nI s) marks fs bc) : ∀ u p, p < s_rk (zb (nI s)) F → (s_op (s_rk (zb (nI s)) F) (s_Bp fs (s_B N (m_ho rm (nI s) marks F))) u p ↔ s_op (s_rk (zb (nI s)) F) (s_B bc (I 40)) u p) := by
  obtain ⟨z1, z2, z3, z4, z5, z6, z7⟩ := id hz
  have hc := s_rk_n (zb (nI s)) 16
  have ek := e_rk hF hs
  have eb : ∀ i, i < N → ∀ p, p < s_rk (zb (nI s)) 16 → zb (m_ho rm (nI s) marks F i) (fs p) = zb (x_bk rx fs (s_rk (zb (nI s)) 16) marks i) p := fun i hi p hp => by
    rw [e_ho hF hN hs hr z1 hi hp]
    have h := x_bk_b (row := rx) (fs := fs) (i := i) (cn := s_rk (zb (nI s)) 16) (marks := marks) (by omega) (q := p) hc
    cases e : zb (x_bk rx fs (s_rk (zb (nI s)) 16) marks i) p with
    | true =>
      obtain ⟨a, b, c⟩ := h.mp e
      rw [a, c]; rfl
    | false =>
      cases e2 : (zb marks i && zb (rx (fs p)) i) with
      | false => rfl
      | true =>
        rw [Bool.and_eq_true] at e2
        rw [h.mpr ⟨e2.1, hp, e2.2⟩] at e
        cases e
  have lt16 : ∀ i, i < 12 → ∀ p, zb (x_bk rx fs (s_rk (zb (nI s)) 16) marks i) p = true → p < s_rk (zb (nI s)) 16 := fun i hi p h => ((x_bk_b (by omega) hc).mp h).2.1
  intro u p hp
  refine s_op_blk2 (fun b hb => ?_) (fun b hb => ?_) u p hp
  · obtain ⟨c, hc', rfl⟩ := List.mem_map.mp hb
    obtain ⟨i, hi, rfl⟩ := s_B_mem.mp hc'
    have ebi : ∀ p, p < s_rk (zb (nI s)) F → zb (m_ho rm (nI s) marks F i) (fs p) = zb (x_bk rx fs (s_rk (zb (nI s)) 16) marks i) p := fun p hp => eb i hi p (by rw [ek]; exact hp)
    rcases z6.2 i (by omega) with ⟨k, hk, e⟩ | q | q
    · left
      exact ⟨zb (I 40 k), s_B_mem.mpr ⟨k, hk, rfl⟩, fun p hp => by rw [e]; exact ebi p hp⟩
    · right; left
      intro x y hx hy bx bY
      have bx' : zb (x_bk rx fs (s_rk (zb (nI s)) 16) marks i) x = true := by rw [← ebi x hx]; exact bx
      have by' : zb (x_bk rx fs (s_rk (zb (nI s)) 16) marks i) y = true := by rw [← ebi y hy]; exact bY
      have := lt16 i (by omega) x bx'
      have := lt16 i (by omega) y by'
      exact s_rk_one q (by omega) (by omega) bx' by'
    · right; right
      intro x hx
      show zb (m_ho rm (nI s) marks F i) (fs x) = true
      rw [ebi x hx]
      have q2 := s_rk_ext (b := zb (x_bk rx fs (s_rk (zb (nI s)) 16) marks i)) (m := s_rk (zb (nI s)) 16) (n := 16) (fun p hp => by
        cases e : zb (x_bk rx fs (s_rk (zb (nI s)) 16) marks i) p with
        | false => rfl
        | true => have := lt16 i (by omega) p e; omega) hc
      exact s_rk_all (n := s_rk (zb (nI s)) 16) (by rw [← q2]; exact q) (by rw [ek]; exact hx)
  · obtain ⟨k, hk, rfl⟩ := s_B_mem.mp hb
    obtain ⟨i, hi, e⟩ := z6.1 k hk
    by_cases hiN : i < N
    · left
      refine ⟨fun p => zb (m_ho rm (nI s) marks F i) (fs p), List.mem_map.mpr ⟨_, s_B_mem.mpr ⟨i, hiN, rfl⟩, rfl⟩, fun p hp => ?_⟩
      rw [e]
      rw [← ek] at hp
      exact (eb i hiN p hp).symm
    · right; left
      intro x y _ _ bx _
      rw [e, x_bk_b (by omega) hc, hmk i (by omega)] at bx
      exact absurd bx.1 (by decide)
theorem e_u0 (hF : F ≤ 16) (hs : s < 2 ^ F) (hfs : s_fs 16 (zb (nI s)) fs) : ∀ p, p < s_rk (zb (nI s)) F → (fun p => s_u (nI s) (nI 0) (fs p)) p = xU (s_rk (zb (nI s)) F) 0 p := fun p hp => by
  have hc := s_rk_n (zb (nI s)) F
  obtain ⟨f1, f2, f3⟩ := (e_fs hF hfs).at hp
  show s_u (nI s) (nI 0) (fs p) = _
  rw [xU_lt (by omega) hp]
  unfold s_u
  rw [f2, zb_nI (by omega), zb_nI (by omega), Nat.zero_testBit, Nat.zero_testBit]
  rfl
/-- as many rows -/
theorem e_V (hF : F ≤ 16) (hN : N ≤ 12) (hs : s < 2 ^ F) (hr : e_rw F N rm rx) (hmk : ∀ i, N ≤ i → zb marks i = false) (hz : x_pz I rx (nI s) marks fs bc) : mV (m_ho rm (nI s) marks F) F N s 0 = xV I (s_rk (zb (nI s)) F) bc 0 := by
  have hfs := e_fs hF hz.1
  rw [mV, s_V_rk hfs (fun b hb f _ hbf => by
    obtain ⟨i, hi, rfl⟩ := s_B_mem.mp hb
    exact e_hs hF hbf) (fun f _ hu => by
    unfold s_u at hu
    simp at hu
    exact hu.2)]
  exact s_V_congr (e_op hF hN hs hr hmk hz) (e_u0 hF hs hz.1)
theorem e_n (hF : F ≤ 16) (hs : s < 2 ^ F) (hfs : s_fs 16 (zb (nI s)) fs) : s_n (s_u (nI s) (nI 0)) F = s_rk (zb (nI s)) F := by
  have hc := s_rk_n (zb (nI s)) F
  rw [s_n_rk (e_fs hF hfs) (fun f _ hu => by
    unfold s_u at hu
    simp at hu
    exact hu.2), s_n_congr (e_u0 hF hs hfs)]
  exact xU_0 (by omega)
/-- the same find at each place -/
theorem e_at (hF : F ≤ 16) (hN : N ≤ 12) (hs : s < 2 ^ F) (hr : e_rw F N rm rx) (hmk : ∀ i, N ≤ i → zb marks i = false) (hz : x_pz I rx (nI s) marks fs bc) {k i : Nat} (hk : k < mV (m_ho rm (nI s) marks F) F N s 0) (hi : i < s_rk (zb (nI s)) F) : mPl (m_ho rm (nI s) marks F) F N s i 0 k = I 39 (s_at (s_rk (zb (nI s)) F) (s_B bc (I 40)) i (xU (s_rk (zb (nI s)) F) 0) k) := by
  obtain ⟨z1, z2, z3, z4, z5, z6, z7⟩ := id hz
  have ek := e_rk hF hs
  have hfs := e_fs hF z1
  have hc := s_rk_n (zb (nI s)) F
  have en := e_n hF hs z1
  have hsub : ∀ b ∈ s_B N (m_ho rm (nI s) marks F), ∀ f, f < F → b f = true → zb (nI s) f = true := fun b hb f _ hbf => by
    obtain ⟨i, hi, rfl⟩ := s_B_mem.mp hb
    exact e_hs hF hbf
  have hu : ∀ f, f < F → s_u (nI s) (nI 0) f = false → zb (nI s) f = true := fun f _ hu => by
    unfold s_u at hu
    simp at hu
    exact hu.2
  rw [mPl, if_pos (by omega), ← s_at_rk hfs hsub i _ _ hu hk (by omega)]
  have hk2 : k < s_V (s_rk (zb (nI s)) F) (s_Bp fs (s_B N (m_ho rm (nI s) marks F))) (fun p => s_u (nI s) (nI 0) (fs p)) := by
    rw [← s_V_rk hfs hsub hu]; exact hk
  have hn2 : i < s_n (fun p => s_u (nI s) (nI 0) (fs p)) (s_rk (zb (nI s)) F) := by rw [← s_n_rk hfs hu]; omega
  rw [s_at_congr (e_op hF hN hs hr hmk hz) i _ _ k (e_u0 hF hs z1) hk2 hn2]
  have hV := e_V hF hN hs hr hmk hz
  have hlt := s_at_lt (n := s_rk (zb (nI s)) F) (B := s_B bc (I 40)) i (xU (s_rk (zb (nI s)) F) 0) k (by
    have : k < xV I (s_rk (zb (nI s)) F) bc 0 := by rw [← hV]; exact hk
    exact this) (by rw [xU_0 (by omega)]; exact hi)
  rw [← ek] at hlt
  have := (z2 _ hlt).1
  rw [ek] at this
  exact this.symm
/-- crosses cost the same -/
theorem e_C (hF : F ≤ 16) (hN : N ≤ 12) (hs : s < 2 ^ F) (hr : e_rw F N rm rx) (hmk : ∀ i, N ≤ i → zb marks i = false) (hfs : s_fs 16 (zb (nI s)) fs) {fm : Nat → Nat} (hfm : s_fs F (zb (nI s)) fm) {v : Nat → Nat} (hv : c_P (s_rk (zb (nI s)) F) v) : c_C (fun i p => zb (m_ho rm (nI s) marks F i) (fm p)) (s_rk (zb (nI s)) F) N v = c_C (fun i p => zb (rx (fs p) &&& marks) i) (s_rk (zb (nI s)) F) 12 v := by
  have ek := e_rk hF hs
  have ef : ∀ p, p < s_rk (zb (nI s)) F → fm p = fs p := fun p hp => by
    obtain ⟨f1, f2, f3⟩ := hfm.at hp
    have := (e_fs hF hfs) (fm p) f1 f2
    rw [f3] at this
    exact this.symm
  have more : ∀ k, N + k ≤ 12 → c_C (fun i p => zb (rx (fs p) &&& marks) i) (s_rk (zb (nI s)) F) (N + k) v = c_C (fun i p => zb (rx (fs p) &&& marks) i) (s_rk (zb (nI s)) F) N v := fun k => by
    induction k with
    | zero => intro _; rfl
    | succ k ih =>
      intro h
      rw [← ih (by omega)]
      unfold c_C
      rw [show N + (k + 1) = (N + k) + 1 from rfl, s_sum]
      have : s_rk (fun x => zb (rx (fs (v x)) &&& marks) (N + k)) (s_rk (zb (nI s)) F) = 0 := by
        have h0 : ∀ m, s_rk (fun x => zb (rx (fs (v x)) &&& marks) (N + k)) m = 0 := fun m => by
          induction m with
          | zero => rfl
          | succ m ih2 => rw [s_rk, ih2, zb_and, hmk (N + k) (by omega)]; simp
        exact h0 _
      rw [this, Nat.zero_sub]
      rfl
  have := more (12 - N) (by omega)
  rw [show N + (12 - N) = 12 by omega] at this
  rw [this]
  refine c_C_h (fun i x hi hx => ?_)
  have hvx := hv.1 x hx
  show zb (m_ho rm (nI s) marks F i) (fm (v x)) = zb (rx (fs (v x)) &&& marks) i
  rw [ef _ hvx, e_ho hF hN hs hr hfs hi (by rw [ek]; exact hvx), zb_and, Bool.and_comm]
/-- the same word -/
theorem e_B (hF : F ≤ 16) (hN : N ≤ 12) (hs : s < 2 ^ F) (hr : e_rw F N rm rx) (hmk : ∀ i, N ≤ i → zb marks i = false) {be b fm : Nat → Nat} (hz : x_pc I rx (nI s) marks fs be) (hfm : s_fs F (zb (nI s)) fm) (hb : c_B (c_C (fun i p => zb (m_ho rm (nI s) marks F i) (fm p)) (s_rk (zb (nI s)) F) N) (s_rk (zb (nI s)) F) b) : c_C (fun i p => zb (m_ho rm (nI s) marks F i) (fm p)) (s_rk (zb (nI s)) F) N b = c_C (fun i p => zb (rx (fs p) &&& marks) i) (s_rk (zb (nI s)) F) 12 be ∧ (∀ i, i < s_rk (zb (nI s)) F → b i = be i ∧ be i < s_rk (zb (nI s)) F) ∧ ∀ p, p < s_rk (zb (nI s)) F → fm p = fs p := by
  obtain ⟨z1, z2, z3, z4, z5, z6⟩ := hz
  have ek := e_rk hF hs
  have hc := s_rk_n (zb (nI s)) F
  rw [ek] at z6
  have eC := fun {v : Nat → Nat} => e_C (v := v) hF hN hs hr hmk z1 hfm
  have hu := (hb.cg (fun v hv => eC hv)).un (by omega) z6
  refine ⟨by rw [eC hb.1]; exact hu.1, fun i hi => ⟨hu.2 i hi, z6.1.1 i hi⟩, fun p hp => ?_⟩
  obtain ⟨f1, f2, f3⟩ := hfm.at hp
  have := (e_fs hF z1) (fm p) f1 f2
  rw [f3] at this
  exact this.symm
end EQR
