/-! The key tree under the invariant -/
theorem x_spl_m {w : Nat → Int32} {T : Nat → Int32 → Int32} {v : Int32} {N i : Nat} (hN : N ≤ 16) (hi : i < N) : ∀ {F : Nat}, (∀ f, f < F → w f = x_bits (fun i => T i (nI f)) v N) → x_spl w i F = m_spl (T i) v F
  | 0, _ => rfl
  | f + 1, h => by
    rw [x_spl, m_spl, x_spl_m hN hi (fun g hg => h g (by omega)), zb_get _ (by omega), h f (by omega), x_bits_b hN]
    by_cases z : T i (nI f) = v
    · rw [if_pos z, if_pos (by simp [hi, z])]
    · rw [if_neg z, if_neg (by simp [z])]
      exact zb_ext (fun k _ => by
        rw [zb_or]
        have : (0 : Int32) <<< (nI f &&& 31) = 0 := by
          refine zb_ext (fun k hk => ?_)
          rw [zb_0, zb, Int32.toBitVec_shiftLeft]
          simp
        rw [this, zb_0, Bool.or_false])
section KEYX
variable {l : Launch} {n : Nat} {K L K' L' : Nat → Nat} {I : Nat → Nat → Int32} {J J' : Nat → Nat → Int64} {G G' : Nat → Nat → Value} {M : Nat → Nat → Int32} {c F N : Nat} {tr : Nat → (Int32 → Int32) → Int32} {cd : Nat} {D D' : Nat → Nat} {ch rr : Nat}
theorem d_tb_n1 {i1 lp s1 kd bd : Nat} (hp : (i1 = 8 ∧ lp = 38 ∧ s1 = 9 ∧ kd = 14 ∧ bd = 16) ∨ (i1 = 9 ∧ lp = 53 ∧ s1 = 4 ∧ kd = 13 ∧ bd = 16)) {i : Nat} (hi : i < 10) : ∀ r ∈ d_tb[i]?, (r.1 < 103 ∧ (i ≠ i1 → r.1 = lp → r.2.1 ≠ s1)) ∧ (i = i1 → r.1 = lp ∧ r.2.1 = s1 ∧ r.2.2.2.1 = kd ∧ r.2.2.2.2 = bd) := by
  rcases hp with ⟨rfl, rfl, rfl, rfl, rfl⟩ | ⟨rfl, rfl, rfl, rfl, rfl⟩
  · exact co_dec (N := 10) (P := fun i => ∀ r ∈ d_tb[i]?, (r.1 < 103 ∧ (i ≠ 8 → r.1 = 38 → r.2.1 ≠ 9)) ∧ (i = 8 → r.1 = 38 ∧ r.2.1 = 9 ∧ r.2.2.2.1 = 14 ∧ r.2.2.2.2 = 16)) (by decide +kernel) hi
  · exact co_dec (N := 10) (P := fun i => ∀ r ∈ d_tb[i]?, (r.1 < 103 ∧ (i ≠ 9 → r.1 = 53 → r.2.1 ≠ 4)) ∧ (i = 9 → r.1 = 53 ∧ r.2.1 = 4 ∧ r.2.2.2.1 = 13 ∧ r.2.2.2.2 = 16)) (by decide +kernel) hi
theorem XDy.gr1 (h : XDy n K L G D) (hn : 103 ≤ n) {lp i1 s1 kd bd e : Nat} (hz : zGr n K L J G K' L' J' G' lp s1 s1) (hp : (i1 = 8 ∧ lp = 38 ∧ s1 = 9 ∧ kd = 14 ∧ bd = 16) ∨ (i1 = 9 ∧ lp = 53 ∧ s1 = 4 ∧ kd = 13 ∧ bd = 16)) (he : e ≤ bd) (g1 : G' lp s1 = .ref n ∧ K' n = kd ∧ L' n = 2 ^ e) (e1 : D' i1 = n) (eo : ∀ i, i ≠ i1 → D' i = D i) : XDy (n + 1) K' L' G' D' := by
  have hlen : ∀ i, i < 10 → i ≠ i1 → L' (D' i) = L (D i) := fun i hi x => by rw [eo i x, (hz.1 _ (h.lt hi)).2.1]
  obtain ⟨p1, p2, p3, p4, p5, p6⟩ := h
  have h : XDy n K L G D := ⟨p1, p2, p3, p4, p5, p6⟩
  refine ⟨fun i r hir => ?_, fun i j hi hj hij => ?_, ?_, ?_, ?_, ?_⟩
  · have hi : i < 10 := (List.getElem?_eq_some_iff.mp hir).1
    obtain ⟨⟨q0, q1⟩, q2⟩ := d_tb_n1 hp hi r hir
    by_cases z1 : i = i1
    · obtain ⟨w1, w2, w3, w4⟩ := q2 z1
      rw [w1, w2, w3, w4, z1, e1]
      exact ⟨g1.1, g1.2.1, Or.inr ⟨e, he, g1.2.2⟩, Or.inr (by omega), by omega⟩
    obtain ⟨w1, w2, w3, w4, w5⟩ := p1 i r hir
    rw [eo i z1, (hz.1 _ w5).1, (hz.1 _ w5).2.1]
    refine ⟨?_, w2, w3, w4, by omega⟩
    by_cases z : r.1 = lp
    · have y1 := q1 z1 z
      rw [z, hz.2.2 _ y1 y1, ← z]
      exact w1
    · rw [hz.2.1 _ (by omega) z]
      exact w1
  · have a := fun i (hi : i < 10) => h.lt hi
    by_cases z1 : i = i1
    · by_cases y1 : j = i1
      · omega
      · rw [z1, e1, eo j y1] at hij
        have := a j hj
        omega
    · rw [eo i z1] at hij
      by_cases y1 : j = i1
      · rw [y1, e1] at hij
        have := a i hi
        omega
      · rw [eo j y1] at hij
        exact p2 i j hi hj hij
  · rw [hlen 1 (by omega) (by omega), hlen 0 (by omega) (by omega)]; exact p3
  · rw [hlen 3 (by omega) (by omega), hlen 2 (by omega) (by omega)]; exact p4
  · rw [hlen 5 (by omega) (by omega), hlen 4 (by omega) (by omega)]; exact p5
  · rw [hlen 7 (by omega) (by omega), hlen 6 (by omega) (by omega)]; exact p6
/-- the key tree has changed, and its array -/
theorem XI.ky {n' : Nat} {I' : Nat → Nat → Int32} (hx : XI n K L I J G M c F N tr cd D ch rr) {a s : Nat} (hn : n ≤ n') (hS : SS K' L' G') (hz : zGr n K L J G K' L' J' G' 53 a s) (hD : XDy n' K' L' G' D') (eD : ∀ i, i < 9 → D' i = D i) (hI : ∀ q, q < n → q ≠ 53 → q ≠ 55 → q ≠ 56 → q ≠ 58 → q ≠ D 9 → I' q = I q) (h11 : x_kyz L' I' D' M c F N tr ch rr) : XI n' K' L' I' J' G' M c F N tr cd D' ch rr := by
  have hx0 := hx
  obtain ⟨⟨a1, a2, a3, a4, a5, a6⟩, h1, h2, h3, h4, h5, h6, h7, h8, h9, h10, -⟩ := hx
  have hp9 : (D 9 = 57 ∨ 103 ≤ D 9) := (a4.at (i := 9) rfl).2.2.2.1
  have o : ∀ q, q < 103 → q ≠ 53 → q ≠ 55 → q ≠ 56 → q ≠ 57 → q ≠ 58 → I' q = I q := fun q x0 x1 x2 x3 x4 x5 => hI q (by omega) x1 x2 x3 x5 (by omega)
  have oD : ∀ i, i < 9 → I' (D' i) = I (D i) ∧ L' (D' i) = L (D i) ∧ J' (D' i) = J (D i) := fun i hi => by
    rw [eD i hi]
    obtain ⟨p, h1, -, h2, h3⟩ := a4.pl (i := i) (by omega)
    simp only [List.mem_cons, List.not_mem_nil, or_false] at h1
    exact ⟨hI _ h3 (by omega) (by omega) (by omega) (by omega) (fun q => absurd (a4.2.1 i 9 (by omega) (by omega) q) (by omega)), (hz.1 _ h3).2.1, (hz.1 _ h3).2.2⟩
  exact hx0.gr hn hS (zGr.XC hz a3 (by omega) a2) hD (fun q hq => o q (by omega) (by omega) (by omega) (by omega) (by omega) (by omega)) (h6.gr (o _ (by omega) (by omega) (by omega) (by omega) (by omega) (by omega)) (fun i hi1 hi2 => ⟨(oD i (by omega)).1, (oD i (by omega)).2.1⟩)) (h7.gr (o _ (by omega) (by omega) (by omega) (by omega) (by omega) (by omega)) (fun i hi1 hi2 => ⟨(oD i (by omega)).1, (oD i (by omega)).2.1⟩)) (h9.gr (fun q _ _ => o q (by omega) (by omega) (by omega) (by omega) (by omega) (by omega)) (hz.1 38 (by omega)).2.2 (oD 8 (by omega)).2.2 (oD 8 (by omega)).2.1) (h10.cg (fun q _ _ => o q (by omega) (by omega) (by omega) (by omega) (by omega) (by omega))) h11
end KEYX
