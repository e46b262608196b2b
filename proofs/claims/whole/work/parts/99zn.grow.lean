/-! The arrays that grow: the invariant behind a growth -/
theorem z_callA {X : zX} {d' j' mc ms : Nat} {as rest : List Value} {h : zH} {uc us : Nat} {K : List Value → zH → Nat → Nat → Prop} {Q : Option Value → zH → Prop} (hct : z_Ctr X.1 d' j' as h mc ms Q) (hd : d' < X.2.2.1) (hm : uc + mc ≤ X.2.2.2.1) (hs : us + ms ≤ X.2.2.2.2.1) (hrs : (rest.map (fun v => v.category)).sum ≤ 8) (hk : ∀ r h', Q r h' → K (r.toList ++ rest) h' (uc + mc) (us + ms)) : z_call X j' as rest h uc us K :=
  ⟨d', mc, ms, Q, hd, hct, hm, hs, hrs, fun r h' q => hk r h' q⟩
section GROW
variable {n n' : Nat} {K L K' L' : Nat → Nat} {I I' : Nat → Nat → Int32} {J J' : Nat → Nat → Int64} {G G' : Nat → Nat → Value} {M : Nat → Nat → Int32} {c F N : Nat} {tr : Nat → (Int32 → Int32) → Int32} {cd : Nat} {D D' : Nat → Nat} {ch rr : Nat}
theorem x_lat.gr {lp b : Nat} {mode : Int32} (h : x_lat L I D M c F N tr lp b mode ch) (e : I' lp = I lp) (eI : ∀ i, b ≤ i → i ≤ b + 3 → I' (D' i) = I (D i) ∧ L' (D' i) = L (D i)) : x_lat L' I' D' M c F N tr lp b mode ch := by
  unfold x_lat at *
  rw [e, (eI b (by omega) (by omega)).1, (eI (b + 1) (by omega) (by omega)).1, (eI (b + 3) (by omega) (by omega)).1, (eI b (by omega) (by omega)).2, (eI (b + 2) (by omega) (by omega)).2]
  exact h
theorem x_sez.gr (h : x_sez L I J D M c N tr ch rr) (e : ∀ q, 38 ≤ q → q ≤ 41 → I' q = I q) (j1 : J' 38 = J 38) (j2 : J' (D' 8) = J (D 8)) (eL : L' (D' 8) = L (D 8)) : x_sez L' I' J' D' M c N tr ch rr := by
  have a := e 38 (by omega) (by omega)
  have b := e 39 (by omega) (by omega)
  have c' := e 40 (by omega) (by omega)
  have d := e 41 (by omega) (by omega)
  unfold x_sez s_memo x_pz at *
  simp only [xV, a, b, c', d, j1, j2, eL] at *
  exact h
theorem x_kyz.gr (h : x_kyz L I D M c F N tr ch rr) (e : ∀ q, 53 ≤ q → q ≤ 56 → I' q = I q) (e9 : I' (D' 9) = I (D 9)) (eL : L' (D' 9) = L (D 9)) : x_kyz L' I' D' M c F N tr ch rr := by
  unfold x_kyz k_memo at *
  rw [e 53 (by omega) (by omega), e 54 (by omega) (by omega), e 55 (by omega) (by omega), e 56 (by omega) (by omega), e9, eL]
  exact h
theorem XI.gr (hx : XI n K L I J G M c F N tr cd D ch rr) (hn : n ≤ n') (hS : SS K' L' G') (hC : XC G' cd) (hD : XDy n' K' L' G' D') (hI : ∀ q, q < 20 ∨ (34 ≤ q ∧ q ≤ 37) ∨ (59 ≤ q ∧ q ≤ 68) → I' q = I q) (h6 : x_lat L' I' D' M c F N tr 22 0 0 ch) (h7 : x_lat L' I' D' M c F N tr 28 4 1 ch) (h9 : x_sez L' I' J' D' M c N tr ch rr) (h10 : x_crz I' M c N tr ch) (h11 : x_kyz L' I' D' M c F N tr ch rr) : XI n' K' L' I' J' G' M c F N tr cd D' ch rr := by
  obtain ⟨⟨a1, a2, a3, a4, a5, a6⟩, h1, h2, h3, h4, h5, -, -, h8, -, -, -⟩ := hx
  have hcd : cd = 12 ∨ cd = 65 := a2.1
  exact ⟨⟨hS, hC, by omega, hD, a5, a6⟩, h1, h2.cg (fun q _ _ => hI q (by omega)), h3.cg (hI _ (by omega)) (hI _ (by omega)) (hI _ (by omega)) (hI _ (by omega)) (hI _ (by omega)) (by rw [hI cd (by omega)]) (hI _ (by omega)) (hI _ (by omega)), h4.cg (by rw [hI 5 (by omega)]) (hI _ (by omega)), h5.cg (hI _ (by omega)), h6, h7, h8.cg (hI _ (by omega)) (hI _ (by omega)) (hI _ (by omega)) (hI _ (by omega)), h9, h10, h11⟩
theorem d_tb_ne {i1 i2 lp s1 s2 : Nat} (hp : (i1 = 0 ∧ i2 = 1 ∧ lp = 22 ∧ s1 = 2 ∧ s2 = 3) ∨ (i1 = 2 ∧ i2 = 3 ∧ lp = 22 ∧ s1 = 6 ∧ s2 = 7) ∨ (i1 = 4 ∧ i2 = 5 ∧ lp = 28 ∧ s1 = 2 ∧ s2 = 3) ∨ (i1 = 6 ∧ i2 = 7 ∧ lp = 28 ∧ s1 = 6 ∧ s2 = 7)) {i : Nat} (hi : i < 10) : ∀ r ∈ d_tb[i]?, (r.1 < 103 ∧ (i ≠ i1 → i ≠ i2 → r.1 = lp → r.2.1 ≠ s1 ∧ r.2.1 ≠ s2)) ∧ (i = i1 → r.1 = lp ∧ r.2.1 = s1 ∧ r.2.2.2.1 = 13 ∧ r.2.2.2.2 = 12) ∧ (i = i2 → r.1 = lp ∧ r.2.1 = s2 ∧ r.2.2.2.1 = 13 ∧ r.2.2.2.2 = 12) := by
  rcases hp with ⟨rfl, rfl, rfl, rfl, rfl⟩ | ⟨rfl, rfl, rfl, rfl, rfl⟩ | ⟨rfl, rfl, rfl, rfl, rfl⟩ | ⟨rfl, rfl, rfl, rfl, rfl⟩
  · exact co_dec (N := 10) (P := fun i => ∀ r ∈ d_tb[i]?, (r.1 < 103 ∧ (i ≠ 0 → i ≠ 1 → r.1 = 22 → r.2.1 ≠ 2 ∧ r.2.1 ≠ 3)) ∧ (i = 0 → r.1 = 22 ∧ r.2.1 = 2 ∧ r.2.2.2.1 = 13 ∧ r.2.2.2.2 = 12) ∧ (i = 1 → r.1 = 22 ∧ r.2.1 = 3 ∧ r.2.2.2.1 = 13 ∧ r.2.2.2.2 = 12)) (by decide +kernel) hi
  · exact co_dec (N := 10) (P := fun i => ∀ r ∈ d_tb[i]?, (r.1 < 103 ∧ (i ≠ 2 → i ≠ 3 → r.1 = 22 → r.2.1 ≠ 6 ∧ r.2.1 ≠ 7)) ∧ (i = 2 → r.1 = 22 ∧ r.2.1 = 6 ∧ r.2.2.2.1 = 13 ∧ r.2.2.2.2 = 12) ∧ (i = 3 → r.1 = 22 ∧ r.2.1 = 7 ∧ r.2.2.2.1 = 13 ∧ r.2.2.2.2 = 12)) (by decide +kernel) hi
  · exact co_dec (N := 10) (P := fun i => ∀ r ∈ d_tb[i]?, (r.1 < 103 ∧ (i ≠ 4 → i ≠ 5 → r.1 = 28 → r.2.1 ≠ 2 ∧ r.2.1 ≠ 3)) ∧ (i = 4 → r.1 = 28 ∧ r.2.1 = 2 ∧ r.2.2.2.1 = 13 ∧ r.2.2.2.2 = 12) ∧ (i = 5 → r.1 = 28 ∧ r.2.1 = 3 ∧ r.2.2.2.1 = 13 ∧ r.2.2.2.2 = 12)) (by decide +kernel) hi
  · exact co_dec (N := 10) (P := fun i => ∀ r ∈ d_tb[i]?, (r.1 < 103 ∧ (i ≠ 6 → i ≠ 7 → r.1 = 28 → r.2.1 ≠ 6 ∧ r.2.1 ≠ 7)) ∧ (i = 6 → r.1 = 28 ∧ r.2.1 = 6 ∧ r.2.2.2.1 = 13 ∧ r.2.2.2.2 = 12) ∧ (i = 7 → r.1 = 28 ∧ r.2.1 = 7 ∧ r.2.2.2.1 = 13 ∧ r.2.2.2.2 = 12)) (by decide +kernel) hi
theorem XDy.lt (h : XDy n K L G D) {i : Nat} (hi : i < 10) : D i < n := by
  obtain ⟨p, -, -, -, h2⟩ := h.pl hi
  exact h2
theorem XDy.gr2 (h : XDy n K L G D) (hn : 103 ≤ n) {lp i1 i2 s1 s2 a b v1 v2 e : Nat} (hz : zGr n K L J G K' L' J' G' lp a b) (hab : (a = s1 ∧ b = s2) ∨ (a = s2 ∧ b = s1)) (hp : (i1 = 0 ∧ i2 = 1 ∧ lp = 22 ∧ s1 = 2 ∧ s2 = 3) ∨ (i1 = 2 ∧ i2 = 3 ∧ lp = 22 ∧ s1 = 6 ∧ s2 = 7) ∨ (i1 = 4 ∧ i2 = 5 ∧ lp = 28 ∧ s1 = 2 ∧ s2 = 3) ∨ (i1 = 6 ∧ i2 = 7 ∧ lp = 28 ∧ s1 = 6 ∧ s2 = 7)) (hv : (v1 = n ∧ v2 = n + 1) ∨ (v1 = n + 1 ∧ v2 = n)) (he : e ≤ 12) (g1 : G' lp s1 = .ref v1 ∧ K' v1 = 13 ∧ L' v1 = 2 ^ e) (g2 : G' lp s2 = .ref v2 ∧ K' v2 = 13 ∧ L' v2 = 2 ^ e) (e1 : D' i1 = v1) (e2 : D' i2 = v2) (eo : ∀ i, i ≠ i1 → i ≠ i2 → D' i = D i) : XDy (n + 2) K' L' G' D' := by
  have hlen : ∀ i, i < 10 → i ≠ i1 → i ≠ i2 → L' (D' i) = L (D i) := fun i hi x y => by rw [eo i x y, (hz.1 _ (h.lt hi)).2.1]
  obtain ⟨p1, p2, p3, p4, p5, p6⟩ := h
  have h : XDy n K L G D := ⟨p1, p2, p3, p4, p5, p6⟩
  refine ⟨fun i r hir => ?_, fun i j hi hj hij => ?_, ?_, ?_, ?_, ?_⟩
  · have hi : i < 10 := (List.getElem?_eq_some_iff.mp hir).1
    obtain ⟨⟨q0, q1⟩, q2, q3⟩ := d_tb_ne hp hi r hir
    by_cases z1 : i = i1
    · obtain ⟨w1, w2, w3, w4⟩ := q2 z1
      rw [w1, w2, w3, w4, z1, e1]
      exact ⟨g1.1, g1.2.1, Or.inr ⟨e, he, g1.2.2⟩, Or.inr (by omega), by omega⟩
    by_cases z2 : i = i2
    · obtain ⟨w1, w2, w3, w4⟩ := q3 z2
      rw [w1, w2, w3, w4, z2, e2]
      exact ⟨g2.1, g2.2.1, Or.inr ⟨e, he, g2.2.2⟩, Or.inr (by omega), by omega⟩
    obtain ⟨w1, w2, w3, w4, w5⟩ := p1 i r hir
    rw [eo i z1 z2, (hz.1 _ w5).1, (hz.1 _ w5).2.1]
    refine ⟨?_, w2, w3, w4, by omega⟩
    by_cases z : r.1 = lp
    · obtain ⟨y1, y2⟩ := q1 z1 z2 z
      rw [z, hz.2.2 _ (by omega) (by omega), ← z]
      exact w1
    · rw [hz.2.1 _ (by omega) z]
      exact w1
  · have a := fun i (hi : i < 10) => h.lt hi
    by_cases z1 : i = i1
    · by_cases y1 : j = i1
      · omega
      · by_cases y2 : j = i2
        · rw [z1, y2, e1, e2] at hij
          omega
        · rw [z1, e1, eo j y1 y2] at hij
          have := a j hj
          omega
    · by_cases z2 : i = i2
      · by_cases y1 : j = i1
        · rw [z2, y1, e1, e2] at hij
          omega
        · by_cases y2 : j = i2
          · omega
          · rw [z2, e2, eo j y1 y2] at hij
            have := a j hj
            omega
      · rw [eo i z1 z2] at hij
        by_cases y1 : j = i1
        · rw [y1, e1] at hij
          have := a i hi
          omega
        · by_cases y2 : j = i2
          · rw [y2, e2] at hij
            have := a i hi
            omega
          · rw [eo j y1 y2] at hij
            exact p2 i j hi hj hij
  · by_cases z : i1 = 0
    · rw [show (1 : Nat) = i2 by omega, e2, show (0 : Nat) = i1 by omega, e1, g1.2.2, g2.2.2]
    · rw [hlen 1 (by omega) (by omega) (by omega), hlen 0 (by omega) (by omega) (by omega)]; exact p3
  · by_cases z : i1 = 2
    · rw [show (3 : Nat) = i2 by omega, e2, show (2 : Nat) = i1 by omega, e1, g1.2.2, g2.2.2]
    · rw [hlen 3 (by omega) (by omega) (by omega), hlen 2 (by omega) (by omega) (by omega)]; exact p4
  · by_cases z : i1 = 4
    · rw [show (5 : Nat) = i2 by omega, e2, show (4 : Nat) = i1 by omega, e1, g1.2.2, g2.2.2]
    · rw [hlen 5 (by omega) (by omega) (by omega), hlen 4 (by omega) (by omega) (by omega)]; exact p5
  · by_cases z : i1 = 6
    · rw [show (7 : Nat) = i2 by omega, e2, show (6 : Nat) = i1 by omega, e1, g1.2.2, g2.2.2]
    · rw [hlen 7 (by omega) (by omega) (by omega), hlen 6 (by omega) (by omega) (by omega)]; exact p6
end GROW
