/-! The lattices under the invariant -/
section LATX
variable {l : Launch} {n : Nat} {K L : Nat → Nat} {I : Nat → Nat → Int32} {J : Nat → Nat → Int64} {G : Nat → Nat → Value} {M : Nat → Nat → Int32} {c F N : Nat} {tr : Nat → (Int32 → Int32) → Int32} {cd : Nat} {D : Nat → Nat} {ch rr : Nat}
def x_lpb (lp b : Nat) (mode : Int32) : Prop := (lp = 22 ∧ b = 0 ∧ mode = 0) ∨ (lp = 28 ∧ b = 4 ∧ mode = 1)
theorem XDy.at (h : XDy n K L G D) {i : Nat} {r : Nat × Nat × Nat × Nat × Nat} (hr : d_tb[i]? = some r) : G r.1 r.2.1 = .ref (D i) ∧ K (D i) = r.2.2.2.1 ∧ p_w2 r.2.2.2.2 (L (D i)) ∧ (D i = r.2.2.1 ∨ 103 ≤ D i) ∧ D i < n := h.1 i r hr
theorem p_w2.lt {b s : Nat} (h : p_w2 b s) (hb : b ≤ 16) : s < 2 ^ 31 := by
  rcases h with rfl | ⟨e, he, rfl⟩
  · decide
  · exact Nat.pow_lt_pow_right (by omega) (by omega)
theorem p_w2.half {b s N : Nat} (h : p_w2 b s) (hs : ¬ 2 ^ N ≤ s) : 2 * s ≤ 2 ^ N := by
  rcases h with rfl | ⟨e, he, rfl⟩
  · have := Nat.two_pow_pos N
    omega
  · have : e < N := by
      by_cases z : N ≤ e
      · exact absurd (Nat.pow_le_pow_right (by omega) z) hs
      · omega
    have := Nat.pow_le_pow_right (n := 2) (by omega) (show e + 1 ≤ N by omega)
    rw [Nat.pow_succ] at this
    omega
theorem XDy.XL (h : XDy n K L G D) (hS : SS K L G) {lp b : Nat} {mode : Int32} (hl : x_lpb lp b mode) : XL K L G lp (D b) (D (b + 1)) (L (D b)) ∧ XL2 K L G lp (D b) (D (b + 2)) (D (b + 3)) (L (D (b + 2))) := by
  have hlen := h.2.2
  have inj := h.2.1
  rcases hl with ⟨rfl, rfl, -⟩ | ⟨rfl, rfl, -⟩
  · obtain ⟨a1, a2, a3, a4, a5⟩ := h.at (i := 0) rfl
    obtain ⟨b1, b2, b3, b4, b5⟩ := h.at (i := 1) rfl
    obtain ⟨c1, c2, c3, c4, c5⟩ := h.at (i := 2) rfl
    obtain ⟨d1, d2, d3, d4, d5⟩ := h.at (i := 3) rfl
    have e1 : D 0 ≠ D 1 := fun q => absurd (inj 0 1 (by omega) (by omega) q) (by omega)
    have e2 : D 2 ≠ D 3 := fun q => absurd (inj 2 3 (by omega) (by omega) q) (by omega)
    have e3 : D 0 ≠ D 2 := fun q => absurd (inj 0 2 (by omega) (by omega) q) (by omega)
    have e4 : D 0 ≠ D 3 := fun q => absurd (inj 0 3 (by omega) (by omega) q) (by omega)
    simp only at a4 b4 c4 d4
    have na : D 0 ≠ 22 := by omega
    have nb : D 1 ≠ 22 := by omega
    have nc : D 2 ≠ 22 := by omega
    have nd : D 3 ≠ 22 := by omega
    exact ⟨⟨sK22 hS, a1, a2, rfl, a3.lt (by decide), b1, b2, hlen.1, na, nb, e1, na.symm, nb.symm, e1.symm⟩, c1, c2, rfl, c3.lt (by decide), d1, d2, hlen.2.1, nc, nd, e2, nc.symm, nd.symm, e2.symm, e3, e4⟩
  · obtain ⟨a1, a2, a3, a4, a5⟩ := h.at (i := 4) rfl
    obtain ⟨b1, b2, b3, b4, b5⟩ := h.at (i := 5) rfl
    obtain ⟨c1, c2, c3, c4, c5⟩ := h.at (i := 6) rfl
    obtain ⟨d1, d2, d3, d4, d5⟩ := h.at (i := 7) rfl
    have e1 : D 4 ≠ D 5 := fun q => absurd (inj 4 5 (by omega) (by omega) q) (by omega)
    have e2 : D 6 ≠ D 7 := fun q => absurd (inj 6 7 (by omega) (by omega) q) (by omega)
    have e3 : D 4 ≠ D 6 := fun q => absurd (inj 4 6 (by omega) (by omega) q) (by omega)
    have e4 : D 4 ≠ D 7 := fun q => absurd (inj 4 7 (by omega) (by omega) q) (by omega)
    simp only at a4 b4 c4 d4
    have na : D 4 ≠ 28 := by omega
    have nb : D 5 ≠ 28 := by omega
    have nc : D 6 ≠ 28 := by omega
    have nd : D 7 ≠ 28 := by omega
    exact ⟨⟨sK28 hS, a1, a2, rfl, a3.lt (by decide), b1, b2, hlen.2.2.1, na, nb, e1, na.symm, nb.symm, e1.symm⟩, c1, c2, rfl, c3.lt (by decide), d1, d2, hlen.2.2.2, nc, nd, e2, nc.symm, nd.symm, e2.symm, e3, e4⟩
theorem XI.lt (hx : XI n K L I J G M c F N tr cd D ch rr) {lp b : Nat} {mode : Int32} (hl : x_lpb lp b mode) : x_lat L I D M c F N tr lp b mode ch := by
  rcases hl with ⟨rfl, rfl, rfl⟩ | ⟨rfl, rfl, rfl⟩
  · exact hx.2.2.2.2.2.2.1
  · exact hx.2.2.2.2.2.2.2.1
/-- one of the lattices has changed, and its arrays -/
theorem XI.la {n' : Nat} {K' L' : Nat → Nat} {I' : Nat → Nat → Int32} {J' : Nat → Nat → Int64} {G' : Nat → Nat → Value} {D' : Nat → Nat} (hx : XI n K L I J G M c F N tr cd D ch rr) {lp b a s : Nat} {mode : Int32} (hl : x_lpb lp b mode) (hn : n ≤ n') (hS : SS K' L' G') (hz : zGr n K L J G K' L' J' G' lp a s) (hD : XDy n' K' L' G' D') (eD : ∀ i, i < 10 → ¬ (b ≤ i ∧ i ≤ b + 3) → D' i = D i) (hI : ∀ q, q < n → q ≠ lp → (∀ i, b ≤ i → i ≤ b + 3 → q ≠ D i) → I' q = I q) (hla : x_lat L' I' D' M c F N tr lp b mode ch) : XI n' K' L' I' J' G' M c F N tr cd D' ch rr := by
  have hx0 := hx
  obtain ⟨⟨a1, a2, a3, a4, a5, a6⟩, h1, h2, h3, h4, h5, h6, h7, h8, h9, h10, h11⟩ := hx
  have pl : ∀ i, i < 10 → (D i = 23 ∨ D i = 24 ∨ D i = 25 ∨ D i = 26 ∨ D i = 29 ∨ D i = 30 ∨ D i = 31 ∨ D i = 32 ∨ D i = 42 ∨ D i = 57 ∨ 103 ≤ D i) ∧ D i < n := fun i hi => by
    obtain ⟨p, h1, -, h2, h3⟩ := a4.pl hi
    simp only [List.mem_cons, List.not_mem_nil, or_false] at h1
    omega
  have hb : b ≤ 4 := by unfold x_lpb at hl; omega
  have hlp : lp = 22 ∨ lp = 28 := by unfold x_lpb at hl; omega
  have o : ∀ q, q < 103 → q ≠ 22 → q ≠ 28 → q ≠ 23 → q ≠ 24 → q ≠ 25 → q ≠ 26 → q ≠ 29 → q ≠ 30 → q ≠ 31 → q ≠ 32 → q ≠ 42 → q ≠ 57 → I' q = I q := fun q x0 x1 x2 y1 y2 y3 y4 y5 y6 y7 y8 y9 y10 => hI q (by omega) (by omega) (fun i hi1 hi2 => by have := pl i (by omega); omega)
  have oD : ∀ i, i < 10 → ¬ (b ≤ i ∧ i ≤ b + 3) → I' (D' i) = I (D i) ∧ L' (D' i) = L (D i) ∧ J' (D' i) = J (D i) := fun i hi hbi => by
    rw [eD i hi hbi]
    have hp := pl i hi
    exact ⟨hI _ hp.2 (by omega) (fun j hj1 hj2 q => hbi (by have := a4.2.1 i j hi (by omega) q; omega)), (hz.1 _ hp.2).2.1, (hz.1 _ hp.2).2.2⟩
  have ol : ∀ lp', (lp' = 22 ∨ lp' = 28) → lp' ≠ lp → I' lp' = I lp' := fun lp' h1 h2 => hI _ (by omega) h2 (fun i hi1 hi2 => by have := pl i (by omega); omega)
  refine hx0.gr hn hS (zGr.XC hz a3 (by omega) a2) hD (fun q hq => o q (by omega) (by omega) (by omega) (by omega) (by omega) (by omega) (by omega) (by omega) (by omega) (by omega) (by omega) (by omega) (by omega)) ?_ ?_ (h9.gr (fun q _ _ => o q (by omega) (by omega) (by omega) (by omega) (by omega) (by omega) (by omega) (by omega) (by omega) (by omega) (by omega) (by omega) (by omega)) (hz.1 38 (by omega)).2.2 (oD 8 (by omega) (by omega)).2.2 (oD 8 (by omega) (by omega)).2.1) (h10.cg (fun q _ _ => o q (by omega) (by omega) (by omega) (by omega) (by omega) (by omega) (by omega) (by omega) (by omega) (by omega) (by omega) (by omega) (by omega))) (h11.gr (fun q _ _ => o q (by omega) (by omega) (by omega) (by omega) (by omega) (by omega) (by omega) (by omega) (by omega) (by omega) (by omega) (by omega) (by omega)) (oD 9 (by omega) (by omega)).1 (oD 9 (by omega) (by omega)).2.1)
  · rcases hl with ⟨rfl, rfl, rfl⟩ | ⟨rfl, rfl, rfl⟩
    · exact hla
    · exact h6.gr (ol 22 (by omega) (by omega)) (fun i hi1 hi2 => ⟨(oD i (by omega) (by omega)).1, (oD i (by omega) (by omega)).2.1⟩)
  · rcases hl with ⟨rfl, rfl, rfl⟩ | ⟨rfl, rfl, rfl⟩
    · exact h7.gr (ol 28 (by omega) (by omega)) (fun i hi1 hi2 => ⟨(oD i (by omega) (by omega)).1, (oD i (by omega) (by omega)).2.1⟩)
    · exact hla
end LATX
