/-! THE LAW'S CALLS IN PAIRS: what class and model answer is the same, and the invariant stands behind them -/
/-- between two calls of the law -/
def lI (rr u : Nat) (h : zH) : Prop := ∃ n K L I J G c F N tr cd D ch, h = (n, K, L, I, J, G) ∧ XI n K L I J G (mN I) c F N tr cd D ch rr ∧ u ≤ x_u L D
def l_int (v : Value) : Prop := ∃ x, v = .int x
def l_lng (v : Value) : Prop := ∃ x, v = .long x
/-- a pair of calls -/
def lP (l : Launch) (V : Value → Prop) (j j' : Nat) (as : List Value) (rr u : Nat) (h : zH) : Prop := ∃ v d mc ms, V v ∧ d ≤ 32 ∧ (mc ≤ 4 ∧ ms ≤ 400000) ∧ z_Ctr l d j (.ref 5 :: as) h mc ms (fun r h' => r = some v ∧ h'.2.1 71 = 11 ∧ ∃ d', d' ≤ 32 ∧ z_Ctr l d' j' (.ref 71 :: as) h' 0 0 (fun r' h2 => r' = some v ∧ lI (rr + 1) (u + ms) h2))
/-- behind a question to the model -/
def lMQ (v : Value) (n : Nat) (K L : Nat → Nat) (I : Nat → Nat → Int32) (J : Nat → Nat → Int64) (G : Nat → Nat → Value) : Option Value → zH → Prop := fun r h' => r = some v ∧ ∃ I2 J2, h' = (n, K, L, I2, J2, G) ∧ mF I I2 ∧ ∀ q, q ≠ 93 → J2 q = J q
/-- behind a change of the model -/
def lMP (P : (Nat → Nat → Int32) → Prop) (v : Value) (n : Nat) (K L : Nat → Nat) (I : Nat → Nat → Int32) (J : Nat → Nat → Int64) (G : Nat → Nat → Value) : Option Value → zH → Prop := fun r h' => r = some v ∧ ∃ I2, h' = (n, K, L, I2, J, G) ∧ (∀ q, (q < 71 ∨ 103 ≤ q) → I2 q = I q) ∧ P (mN I2)
section LAW1
variable {l : Launch} {n : Nat} {K L : Nat → Nat} {I : Nat → Nat → Int32} {J : Nat → Nat → Int64} {G : Nat → Nat → Value} {c F N : Nat} {tr : Nat → (Int32 → Int32) → Int32} {cd : Nat} {D : Nat → Nat} {ch rr u : Nat} {V : Value → Prop} {v : Value} {d j j' mc ms : Nat} {as : List Value}
theorem XI.nx (hx : XI n K L I J G (mN I) c F N tr cd D ch rr) {I2 : Nat → Nat → Int32} {J2 : Nat → Nat → Int64} (hm : mF I I2) (hJ : ∀ q, q ≠ 93 → J2 q = J q) : XI n K L I2 J2 G (mN I2) c F N tr cd D ch rr := (hx.h (fun q hq => hm.1 q (by unfold mP; omega)) hJ).m (((mN_G' I).tr hm.G).tr (mN_G I2))
theorem lP.po (hx : XI n K L I J G (mN I) c F N tr cd D ch rr) (hV : V v) (hu : u ≤ x_u L D) (hd : d ≤ 32) (hmc : mc ≤ 4 ∧ ms ≤ 400000) (hc : z_Ctr l d j (.ref 5 :: as) (n, K, L, I, J, G) mc ms (x_po n I J (mN I) c F N tr (rr + 1) (x_u L D + ms) v)) (hm : ∀ n' K' L' I' J' G', SS K' L' G' → m_st I' c F N tr → mN I' = mN I → ∃ d', d' ≤ 32 ∧ z_Ctr l d' j' (.ref 71 :: as) (n', K', L', I', J', G') 0 0 (lMQ v n' K' L' I' J' G')) : lP l V j j' as rr u (n, K, L, I, J, G) := by
  refine ⟨v, d, mc, ms, hV, hd, hmc, hc.mono (fun r h' q => ?_)⟩
  obtain ⟨q1, n', K', L', I', J', G', cd', D', ch', rfl, hx', hu', hI, hn⟩ := q
  have hN : mN I' = mN I := mN_eq (fun q a b => (hI q a b).1)
  rw [← hN] at hx'
  obtain ⟨d', h1, h2⟩ := hm n' K' L' I' J' G' hx'.S hx'.2.1.1 hN
  refine ⟨q1, sK71 hx'.S, d', h1, h2.mono (fun r2 h2 q => ?_)⟩
  obtain ⟨q1, I2, J2, rfl, q2, q3⟩ := q
  exact ⟨q1, n', K', L', I2, J2, G', c, F, N, tr, cd', D', ch', rfl, hx'.nx q2 q3, by omega⟩
theorem lP.pq {P : (Nat → Nat → Int32) → Prop} {c' F' N' : Nat} {tr' : Nat → (Int32 → Int32) → Int32} (hV : V v) (hu : u ≤ x_u L D) (hd : d ≤ 32) (hmc : mc ≤ 4 ∧ ms ≤ 400000) (hc : z_Ctr l d j (.ref 5 :: as) (n, K, L, I, J, G) mc ms (x_pq n I J P c' F' N' tr' (rr + 1) (x_u L D + ms) v)) (hm : ∀ n' K' L' I' J' G', SS K' L' G' → mN I' = mN I → ∃ d', d' ≤ 32 ∧ z_Ctr l d' j' (.ref 71 :: as) (n', K', L', I', J', G') 0 0 (lMP P v n' K' L' I' J' G')) : lP l V j j' as rr u (n, K, L, I, J, G) := by
  refine ⟨v, d, mc, ms, hV, hd, hmc, hc.mono (fun r h' q => ?_)⟩
  obtain ⟨q1, n', K', L', I', J', G', cd', D', ch', rfl, hx', hS, hu', hI, hn⟩ := q
  have hN : mN I' = mN I := mN_eq (fun q a b => (hI q a b).1)
  obtain ⟨d', h1, h2⟩ := hm n' K' L' I' J' G' hS hN
  refine ⟨q1, sK71 hS, d', h1, h2.mono (fun r2 h2 q => ?_)⟩
  obtain ⟨q1, I2, rfl, q2, q3⟩ := q
  exact ⟨q1, n', K', L', I2, J', G', c', F', N', tr', cd', D', ch', rfl, (hx' _ q3).h q2 (fun _ _ => rfl), by omega⟩
theorem lM.g {P : (Nat → Nat → Int32) → Prop} (h : z_Ctr l d j as (n, K, L, I, J, G) 0 0 (fun r h' => r = some v ∧ ∃ I', h' = (n, K, L, I', J, G) ∧ P I')) (hP : ∀ I', P I' → mF I I') : z_Ctr l d j as (n, K, L, I, J, G) 0 0 (lMQ v n K L I J G) := h.mono (fun r h' q => by
  obtain ⟨q1, I', q2, q3⟩ := q
  exact ⟨q1, I', J, q2, hP _ q3, fun _ _ => rfl⟩)
theorem lM.jj (h : z_Ctr l d j as (n, K, L, I, J, G) 0 0 (fun r h' => r = some v ∧ ∃ I' J', h' = (n, K, L, I', J', G) ∧ mF I I' ∧ ∀ q, q ≠ 93 → J' q = J q)) : z_Ctr l d j as (n, K, L, I, J, G) 0 0 (lMQ v n K L I J G) := h
theorem lM.e {I' : Nat → Nat → Int32} (h : z_D l d j as (n, K, L, I, J, G) (some v) (n, K, L, I', J, G)) (hP : mF I I') : z_Ctr l d j as (n, K, L, I, J, G) 0 0 (lMQ v n K L I J G) := z_Ctr.mono h (fun r h' q => ⟨q.1, I', J, q.2, hP, fun _ _ => rfl⟩)
theorem lM.t (h : z_D l d j as (n, K, L, I, J, G) (some v) (n, K, L, m_t I, J, G)) : z_Ctr l d j as (n, K, L, I, J, G) 0 0 (lMQ v n K L I J G) := lM.e h (mF.t I)
theorem lM.p {P : (Nat → Nat → Int32) → Prop} {I' : Nat → Nat → Int32} (h : z_D l d j as (n, K, L, I, J, G) (some v) (n, K, L, I', J, G)) (h1 : ∀ q, (q < 71 ∨ 103 ≤ q) → I' q = I q) (hP : P (mN I')) : z_Ctr l d j as (n, K, L, I, J, G) 0 0 (lMP P v n K L I J G) := z_Ctr.mono h (fun r h' q => ⟨q.1, I', q.2, h1, hP⟩)
theorem l_nat {x : Int32} (h0 : 0 ≤ x) (h1 : x < nI F) (hF : F < 2 ^ 31) : ∃ k, k < F ∧ x = nI k := vp_in_of (vp_in_iff.mpr ⟨by rw [Int32.le_iff_toInt_le] at h0; simpa using h0, by rw [Int32.lt_iff_toInt_lt, nI_toInt hF] at h1; exact h1⟩) hF
theorem l_le1 {x : Int32} (hN : N < 2 ^ 31) : x ≤ nI N - 1 ↔ x < nI N := by
  rcases N with _ | N
  · show x ≤ 0 - 1 ↔ x < 0
    simp only [Int32.lt_iff_toInt_lt, Int32.le_iff_toInt_le]
    have : (0 - 1 : Int32).toInt = -1 := by decide
    have h0 : (0 : Int32).toInt = 0 := by decide
    omega
  · rw [nI_pred, Int32.lt_iff_toInt_lt, Int32.le_iff_toInt_le, nI_toInt (by omega), nI_toInt hN]
    omega
theorem l_5 {x : Int32} (h : 0 ≤ x ∧ x ≤ 5) : ∃ k, k < 6 ∧ x = nI k := by
  obtain ⟨k, h1, h2⟩ := nI_of2 (n := 5) (x := x) (M := 5) (by decide) (Int32.not_lt.mpr h.1) h.2
  exact ⟨k, by omega, h2⟩
theorem l_set {s : Int32} (h : 0 ≤ s ∧ s < nI (2 ^ F)) (hF : F ≤ 16) : ∃ k, k < 2 ^ F ∧ s = nI k := l_nat h.1 h.2 (Nat.lt_of_le_of_lt (Nat.pow_le_pow_right (by omega) hF) (by decide))
/-- value -/
theorem l119 (hx : XI n K L I J G (mN I) c F N tr cd D ch rr) (hr : rr < 600) (hu : u ≤ x_u L D) (f m : Int32) : lP l l_int 119 168 [.int f, .int m] rr u (n, K, L, I, J, G) := by
  have hF := hx.fn
  by_cases h : (0 ≤ f ∧ f < nI F) ∧ (0 ≤ m ∧ m ≤ 5)
  · obtain ⟨f', hf, rfl⟩ := l_nat h.1.1 h.1.2 (by omega)
    obtain ⟨m', hm, rfl⟩ := l_5 h.2
    refine lP.po hx ⟨_, rfl⟩ hu (by omega) ⟨by omega, by omega⟩ (d119a hx hr hf hm) (fun n' K' L' I' J' G' hS hst hN => ⟨2, by omega, ?_⟩)
    rw [← hN]
    exact lM.t (c168a hS hst.1 hst.2.1 (by rw [hst.2.2.1]; exact h.1) h.2)
  · refine lP.po hx ⟨_, rfl⟩ hu (by omega) ⟨by omega, by omega⟩ (d119b hx hr h) (fun n' K' L' I' J' G' hS hst hN => ⟨2, by omega, ?_⟩)
    exact lM.t (c168b hS (by rw [hst.2.2.1]; exact h))
/-- fault -/
theorem l123 (hx : XI n K L I J G (mN I) c F N tr cd D ch rr) (hr : rr < 600) (hu : u ≤ x_u L D) (w : Int32) : lP l l_int 123 192 [.int w] rr u (n, K, L, I, J, G) := by
  refine lP.po hx ⟨_, rfl⟩ hu (by omega) ⟨by omega, by omega⟩ (d123 hx hr w) (fun n' K' L' I' J' G' hS hst hN => ⟨0, by omega, ?_⟩)
  rw [← hN]
  exact lM.t (c192 hS w)
/-- mark -/
theorem l124 (hx : XI n K L I J G (mN I) c F N tr cd D ch rr) (hr : rr < 600) (hu : u ≤ x_u L D) (f i : Int32) : lP l l_int 124 197 [.int f, .int i] rr u (n, K, L, I, J, G) := by
  have hF := hx.fn
  by_cases h : (0 ≤ f ∧ f < nI F) ∧ (0 ≤ i ∧ i < nI N)
  · obtain ⟨f', hf, rfl⟩ := l_nat h.1.1 h.1.2 (by omega)
    obtain ⟨i', hi, rfl⟩ := l_nat h.2.1 h.2.2 (by omega)
    refine lP.po hx ⟨_, rfl⟩ hu (by omega) ⟨by omega, by omega⟩ (d124a hx hr hf hi) (fun n' K' L' I' J' G' hS hst hN => ⟨3, by omega, ?_⟩)
    rw [← hN]
    exact lM.g (c197a hS hst hi hf) (fun _ q => (mF.t _).tr q.F)
  · refine lP.po hx ⟨_, rfl⟩ hu (by omega) ⟨by omega, by omega⟩ (d124b hx hr h) (fun n' K' L' I' J' G' hS hst hN => ⟨3, by omega, ?_⟩)
    exact lM.t (c197b hS hst (by rw [l_le1 (by omega)]; exact h))
/-- look -/
theorem l125 (hx : XI n K L I J G (mN I) c F N tr cd D ch rr) (hr : rr < 600) (hu : u ≤ x_u L D) (w : Int32) : lP l l_int 125 223 [.int w] rr u (n, K, L, I, J, G) := by
  refine lP.po hx ⟨_, rfl⟩ hu (by omega) ⟨by omega, by omega⟩ (d125 hx hr w) (fun n' K' L' I' J' G' hS hst hN => ⟨0, by omega, ?_⟩)
  rw [← hN]
  exact lM.t (c223 hS w)
/-- row -/
theorem l126 (hx : XI n K L I J G (mN I) c F N tr cd D ch rr) (hr : rr < 600) (hu : u ≤ x_u L D) (f mode : Int32) : lP l l_int 126 202 [.int f, .int mode] rr u (n, K, L, I, J, G) := by
  have hF := hx.fn
  by_cases h : (0 ≤ f ∧ f < nI F) ∧ (mode = 0 ∨ mode = 1)
  · obtain ⟨f', hf, rfl⟩ := l_nat h.1.1 h.1.2 (by omega)
    refine lP.po hx ⟨_, rfl⟩ hu (by omega) ⟨by omega, by omega⟩ (d126a hx hr hf h.2) (fun n' K' L' I' J' G' hS hst hN => ⟨4, by omega, ?_⟩)
    rw [← hN]
    exact lM.g (c202a hS hst hf h.2) (fun _ q => (mF.t _).tr q.F)
  · refine lP.po hx ⟨_, rfl⟩ hu (by omega) ⟨by omega, by omega⟩ (d126b hx hr h) (fun n' K' L' I' J' G' hS hst hN => ⟨4, by omega, ?_⟩)
    exact lM.t (c202b hS (by rw [hst.2.2.1]; exact h))
/-- have -/
theorem l127 (hx : XI n K L I J G (mN I) c F N tr cd D ch rr) (hr : rr < 600) (hu : u ≤ x_u L D) (set mode : Int32) : lP l l_int 127 203 [.int set, .int mode] rr u (n, K, L, I, J, G) := by
  by_cases h : m_isM N set ∧ m_md mode
  · refine lP.po hx ⟨_, rfl⟩ hu (by omega) ⟨by omega, by omega⟩ (d127a hx hr h.1 h.2) (fun n' K' L' I' J' G' hS hst hN => ⟨4, by omega, ?_⟩)
    rw [← hN]
    exact lM.g (c203a hS hst h.1 h.2) (fun _ q => (mF.t _).tr q.F)
  · exact lP.po hx ⟨_, rfl⟩ hu (by omega) ⟨by omega, by omega⟩ (d127b hx hr h) (fun n' K' L' I' J' G' hS hst hN => ⟨4, by omega, lM.t (c203b hS hst h)⟩)
/-- close -/
theorem l128 (hx : XI n K L I J G (mN I) c F N tr cd D ch rr) (hr : rr < 600) (hu : u ≤ x_u L D) (set mode : Int32) : lP l l_int 128 205 [.int set, .int mode] rr u (n, K, L, I, J, G) := by
  by_cases h : m_isM N set ∧ m_md mode
  · refine lP.po hx ⟨_, rfl⟩ hu (by omega) ⟨by omega, by omega⟩ (d128a hx hr h.1 h.2) (fun n' K' L' I' J' G' hS hst hN => ⟨4, by omega, ?_⟩)
    rw [← hN]
    exact lM.g (c205a hS hst h.1 h.2) (fun _ q => (mF.t _).tr q.F)
  · exact lP.po hx ⟨_, rfl⟩ hu (by omega) ⟨by omega, by omega⟩ (d128b hx hr h) (fun n' K' L' I' J' G' hS hst hN => ⟨4, by omega, lM.t (c205b hS hst h)⟩)
/-- concepts -/
theorem l129 (hx : XI n K L I J G (mN I) c F N tr cd D ch rr) (hr : rr < 600) (hu : u ≤ x_u L D) (mode : Int32) : lP l l_int 129 208 [.int mode] rr u (n, K, L, I, J, G) := by
  by_cases h : mode = 0 ∨ mode = 1
  · obtain ⟨mc, ms, h4, hc⟩ := d129a (l := l) hx hr h
    refine lP.po hx ⟨_, rfl⟩ hu (by omega) h4 hc (fun n' K' L' I' J' G' hS hst hN => ⟨5, by omega, ?_⟩)
    rw [← hN]
    exact lM.g (c208a hS hst h) (fun _ q => (mF.t _).tr q.F)
  · exact lP.po hx ⟨_, rfl⟩ hu (by omega) ⟨by omega, by omega⟩ (d129b hx hr h) (fun n' K' L' I' J' G' hS hst hN => ⟨5, by omega, lM.t (c208b hS h)⟩)
/-- concept -/
theorem l130 (hx : XI n K L I J G (mN I) c F N tr cd D ch rr) (hr : rr < 600) (hu : u ≤ x_u L D) (mode i : Int32) : lP l l_int 130 209 [.int mode, .int i] rr u (n, K, L, I, J, G) := by
  by_cases h : mode = 0 ∨ mode = 1
  · obtain ⟨mc, ms, h4, hc⟩ := d130a (l := l) hx hr h i
    refine lP.po hx ⟨_, rfl⟩ hu (by omega) h4 hc (fun n' K' L' I' J' G' hS hst hN => ⟨5, by omega, ?_⟩)
    rw [← hN]
    exact lM.g (c209a hS hst h i) (fun _ q => (mF.t _).tr q.F)
  · exact lP.po hx ⟨_, rfl⟩ hu (by omega) ⟨by omega, by omega⟩ (d130b hx hr h) (fun n' K' L' I' J' G' hS hst hN => ⟨5, by omega, lM.t (c209b hS h)⟩)
/-- number -/
theorem l131 (hx : XI n K L I J G (mN I) c F N tr cd D ch rr) (hr : rr < 600) (hu : u ≤ x_u L D) (mode set : Int32) : lP l l_int 131 210 [.int mode, .int set] rr u (n, K, L, I, J, G) := by
  by_cases h : m_md mode ∧ m_isM N set
  · obtain ⟨mc, ms, h4, hc⟩ := d131a (l := l) hx hr h.1 h.2
    refine lP.po hx ⟨_, rfl⟩ hu (by omega) h4 hc (fun n' K' L' I' J' G' hS hst hN => ⟨5, by omega, ?_⟩)
    rw [← hN]
    exact lM.g (c210a hS hst h.1 h.2) (fun _ q => (mF.t _).tr q.F)
  · exact lP.po hx ⟨_, rfl⟩ hu (by omega) ⟨by omega, by omega⟩ (d131b hx hr h) (fun n' K' L' I' J' G' hS hst hN => ⟨5, by omega, lM.t (c210b hS hst h)⟩)
/-- rules -/
theorem l132 (hx : XI n K L I J G (mN I) c F N tr cd D ch rr) (hr : rr < 600) (hu : u ≤ x_u L D) (mode : Int32) : lP l l_int 132 212 [.int mode] rr u (n, K, L, I, J, G) := by
  by_cases h : mode = 0 ∨ mode = 1
  · obtain ⟨mc, ms, h4, hc⟩ := d132a (l := l) hx hr h
    refine lP.po hx ⟨_, rfl⟩ hu (by omega) h4 hc (fun n' K' L' I' J' G' hS hst hN => ⟨5, by omega, ?_⟩)
    rw [← hN]
    exact lM.g (c212a hS hst h) (fun _ q => q)
  · exact lP.po hx ⟨_, rfl⟩ hu (by omega) ⟨by omega, by omega⟩ (d132b hx hr h) (fun n' K' L' I' J' G' hS hst hN => ⟨5, by omega, lM.t (c212b hS h)⟩)
/-- rule -/
theorem l133 (hx : XI n K L I J G (mN I) c F N tr cd D ch rr) (hr : rr < 600) (hu : u ≤ x_u L D) (mode i w : Int32) : lP l l_int 133 213 [.int mode, .int i, .int w] rr u (n, K, L, I, J, G) := by
  by_cases h : (mode = 0 ∨ mode = 1) ∧ (0 ≤ w ∧ w ≤ 1)
  · obtain ⟨mc, ms, h4, hc⟩ := d133a (l := l) (i := i) hx hr h.1 h.2
    refine lP.po hx ⟨_, rfl⟩ hu (by omega) h4 hc (fun n' K' L' I' J' G' hS hst hN => ⟨5, by omega, ?_⟩)
    rw [← hN]
    exact lM.g (c213a hS hst h.1 h.2) (fun _ q => q)
  · exact lP.po hx ⟨_, rfl⟩ hu (by omega) ⟨by omega, by omega⟩ (d133b hx hr h) (fun n' K' L' I' J' G' hS hst hN => ⟨5, by omega, lM.t (c213b hS h)⟩)
/-- against -/
theorem l135 (hx : XI n K L I J G (mN I) c F N tr cd D ch rr) (hr : rr < 600) (hu : u ≤ x_u L D) (mode p q : Int32) : lP l l_int 135 215 [.int mode, .int p, .int q] rr u (n, K, L, I, J, G) := by
  by_cases h : m_md mode ∧ m_isM N p ∧ m_isM N q
  · refine lP.po hx ⟨_, rfl⟩ hu (by omega) ⟨by omega, by omega⟩ (d135a hx hr h.2.1 h.2.2 h.1) (fun n' K' L' I' J' G' hS hst hN => ⟨4, by omega, ?_⟩)
    rw [← hN]
    exact lM.g (c215a hS hst h.2.1 h.2.2 h.1) (fun _ q => (mF.t _).tr q.F)
  · exact lP.po hx ⟨_, rfl⟩ hu (by omega) ⟨by omega, by omega⟩ (d135b hx hr h) (fun n' K' L' I' J' G' hS hst hN => ⟨4, by omega, lM.t (c215b hS hst h)⟩)
/-- quarrel -/
theorem l147 (hx : XI n K L I J G (mN I) c F N tr cd D ch rr) (hr : rr < 600) (hu : u ≤ x_u L D) (day by' w : Int32) : lP l l_int 147 241 [.int day, .int by', .int w] rr u (n, K, L, I, J, G) := by
  by_cases h : (0 ≤ day ∧ day ≤ 999) ∧ (0 ≤ by' ∧ by' ≤ 999)
  · refine lP.po hx ⟨_, rfl⟩ hu (by omega) ⟨by omega, by omega⟩ (d147a hx hr h.1 h.2) (fun n' K' L' I' J' G' hS hst hN => ⟨2, by omega, ?_⟩)
    rw [← hN]
    exact lM.t (c241a hS hst.1 hst.2.1 hst.2.2.1 hst.2.2.2.1 h.1 h.2)
  · exact lP.po hx ⟨_, rfl⟩ hu (by omega) ⟨by omega, by omega⟩ (d147b hx hr h) (fun n' K' L' I' J' G' hS hst hN => ⟨2, by omega, lM.t (c241b hS h)⟩)
/-- changed -/
theorem l148 (hx : XI n K L I J G (mN I) c F N tr cd D ch rr) (hr : rr < 600) (hu : u ≤ x_u L D) (k0 d1 d2 w : Int32) : lP l l_int 148 242 [.int k0, .int d1, .int d2, .int w] rr u (n, K, L, I, J, G) := by
  by_cases h : (0 ≤ k0 ∧ k0 ≤ 2) ∧ (0 ≤ d1 ∧ d1 ≤ 999) ∧ (0 ≤ d2 ∧ d2 ≤ 999)
  · refine lP.po hx ⟨_, rfl⟩ hu (by omega) ⟨by omega, by omega⟩ (d148a hx hr h.1 h.2.1 h.2.2) (fun n' K' L' I' J' G' hS hst hN => ⟨3, by omega, ?_⟩)
    rw [← hN]
    exact lM.g (c242a hS hst h.1 h.2.1 h.2.2) (fun _ q => q)
  · exact lP.po hx ⟨_, rfl⟩ hu (by omega) ⟨by omega, by omega⟩ (d148b hx hr h) (fun n' K' L' I' J' G' hS hst hN => ⟨3, by omega, lM.t (c242b hS h)⟩)
end LAW1
