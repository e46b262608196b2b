/-! The rows under the invariant: what the seriation holds -/
section SERX2
variable {n : Nat} {K L K' L' : Nat → Nat} {I : Nat → Nat → Int32} {J J' : Nat → Nat → Int64} {G G' : Nat → Nat → Value} {M : Nat → Nat → Int32} {c F N : Nat} {tr : Nat → (Int32 → Int32) → Int32} {cd : Nat} {D D' : Nat → Nat} {ch rr : Nat}
theorem x_pz.XZ {row : Nat → Int32} {set marks : Int32} {fs : Nat → Nat} {bc R ca : Nat} (h : x_pz I row set marks fs bc) (g1 : G 38 9 = .ref ca) (g2 : K ca = 14) (g3 : L ca ≤ 65536) (g4 : 2 ^ s_rk (zb set) 16 ≤ L ca) (g5 : ca = 42 ∨ 103 ≤ ca) (g6 : J 38 10 = lN R) (g7 : R < 2 ^ 18) : XZ K L G I J ca (L ca) (s_rk (zb set) 16) bc R := by
  obtain ⟨z1, z2, z3, z4, z5, z6, z7⟩ := h
  have hc := s_rk_n (zb set) 16
  refine ⟨g1, g2, rfl, g3, g4, g5, z3, hc, z4, z5, g6, g7, fun b hb p hp => ?_, fun p hp q => ?_⟩
  · obtain ⟨i, hi, e⟩ := z6.1 b hb
    rw [e] at hp
    exact ((x_bk_b (by omega) hc).mp hp).2.1
  · rw [z7 p hp]
    by_cases hq : q < 32
    · rw [s_mx_b (by omega) hq, z_zs_b hc]
      refine and_congr (by simp) ?_
      unfold s_mt
      constructor
      · intro h b hb
        obtain ⟨i, hi, rfl⟩ := s_B_mem.mp hb
        exact h i hi
      · intro h b hb
        exact h _ (s_B_mem.mpr ⟨b, hb, rfl⟩)
    · rw [zb_ge (by omega)]
      constructor
      · intro h; cases h
      · intro h; omega
/-- the seriation has changed, and its array -/
theorem XI.se {n' : Nat} {I' : Nat → Nat → Int32} {J1 : Nat → Nat → Int64} (hx : XI n K L I J G M c F N tr cd D ch rr) {a s : Nat} (hn : n ≤ n') (hS : SS K' L' G') (hz : zGr n K L J G K' L' J1 G' 38 a s) (hD : XDy n' K' L' G' D') (eD : ∀ i, i < 10 → i ≠ 8 → D' i = D i) (hI : ∀ q, q < n → q ≠ 38 → q ≠ 39 → q ≠ 40 → q ≠ 41 → I' q = I q) (h9 : x_sez L' I' J' D' M c N tr ch rr) : XI n' K' L' I' J' G' M c F N tr cd D' ch rr := by
  have hx0 := hx
  obtain ⟨⟨a1, a2, a3, a4, a5, a6⟩, h1, h2, h3, h4, h5, h6, h7, h8, -, h10, h11⟩ := hx
  have o : ∀ q, q < 103 → ¬ (38 ≤ q ∧ q ≤ 41) → I' q = I q := fun q x0 x1 => hI q (by omega) (by omega) (by omega) (by omega) (by omega)
  have oD : ∀ i, i < 10 → i ≠ 8 → I' (D' i) = I (D i) ∧ L' (D' i) = L (D i) := fun i hi h8 => by
    rw [eD i hi h8]
    obtain ⟨p, h1, -, h2, h3⟩ := a4.pl (i := i) hi
    simp only [List.mem_cons, List.not_mem_nil, or_false] at h1
    exact ⟨hI _ h3 (by omega) (by omega) (by omega) (by omega), (hz.1 _ h3).2.1⟩
  exact hx0.gr hn hS (zGr.XC hz a3 (by omega) a2) hD (fun q hq => o q (by omega) (by omega)) (h6.gr (o _ (by omega) (by omega)) (fun i hi1 hi2 => oD i (by omega) (by omega))) (h7.gr (o _ (by omega) (by omega)) (fun i hi1 hi2 => oD i (by omega) (by omega))) h9 (h10.cg (fun q _ _ => o q (by omega) (by omega))) (h11.gr (fun q _ _ => o q (by omega) (by omega)) (oD 9 (by omega) (by omega)).1 (oD 9 (by omega) (by omega)).2)
end SERX2
