/-! The lattices built under the invariant -/
def x_gp (n : Nat) (I : Nat → Nat → Int32) (J : Nat → Nat → Int64) (M : Nat → Nat → Int32) (c F N : Nat) (tr : Nat → (Int32 → Int32) → Int32) (cd ch rr u : Nat) (P : (Nat → Nat → Int32) → (Nat → Nat) → (Nat → Nat) → Prop) : zH → Prop := fun h' => ∃ n' K' L' I' J' G' D', h' = (n', K', L', I', J', G') ∧ XI n' K' L' I' J' G' M c F N tr cd D' ch rr ∧ u ≤ x_u L' D' ∧ (∀ q, 71 ≤ q → q ≤ 102 → I' q = I q ∧ J' q = J q) ∧ n ≤ n' ∧ P I' L' D'
/-- whether a lattice grows -/
def x_g30 (L : Nat → Nat) (I : Nat → Nat → Int32) (D : Nat → Nat) (lp b N ch : Nat) : Nat := if I lp 5 = nI ch ∨ 2 ^ N ≤ L (D b) then 0 else 1
def x_g33 (L : Nat → Nat) (I : Nat → Nat → Int32) (D : Nat → Nat) (lp b N ch : Nat) : Nat := if I lp 9 = nI ch ∨ 2 ^ N ≤ L (D (b + 2)) then 0 else 1
section LATX2
variable {l : Launch} {n : Nat} {K L : Nat → Nat} {I : Nat → Nat → Int32} {J : Nat → Nat → Int64} {G : Nat → Nat → Value} {M : Nat → Nat → Int32} {c F N : Nat} {tr : Nat → (Int32 → Int32) → Int32} {cd : Nat} {D : Nat → Nat} {ch rr : Nat}
theorem x_lc_cl (hw : x_rwo I M c F N tr) (hN : N ≤ 12) {mode : Int32} (hm : mode = 0 ∨ mode = 1) : x_lc I mode N F = x_cl M c F N tr mode := by
  funext s
  exact m_clo_congr (fun g hg => by rw [← hw.row hN hm hg])
theorem XI.gD (hx : XI n K L I J G M c F N tr cd D ch rr) {i : Nat} (hi : i < 10) : (D i < 71 ∨ 103 ≤ D i) ∧ D i < n ∧ D i ≠ 10 ∧ D i ≠ 16 ∧ D i ≠ 17 := by
  obtain ⟨p, h1, -, h2, h3⟩ := hx.1.2.2.2.1.pl hi
  simp only [List.mem_cons, List.not_mem_nil, or_false] at h1
  omega
theorem c30x (hx : XI n K L I J G M c F N tr cd D ch rr) (hw : x_rwo I M c F N tr) {lp b : Nat} {mode : Int32} (hl : x_lpb lp b mode) : z_Ctr l 1 30 [.ref lp, .ref 10, .int mode] (n, K, L, I, J, G) (2 * x_g30 L I D lp b N ch) (2 * 2 ^ N * x_g30 L I D lp b N ch) (fun r h' => r = none ∧ x_gp n I J M c F N tr cd ch rr (x_u L D + 2 * 2 ^ N * x_g30 L I D lp b N ch) (fun I' L' D' => I' lp 5 = nI ch ∧ I' lp 9 = I lp 9 ∧ L' (D' (b + 2)) = L (D (b + 2))) h') := by
  have hS : SS K L G := hx.S
  obtain ⟨f1, f2, f3, f4⟩ := hx.fn
  have hXD := hx.1.2.2.2.1
  have hn := hx.1.2.2.1
  obtain ⟨hL, hL2⟩ := hXD.XL hS hl
  have hch : I 10 10 = nI ch := hx.2.2.2.1.2.2.2.2.2.2.2.2.2
  have hlp : lp = 22 ∨ lp = 28 := by unfold x_lpb at hl; omega
  have hb : b = 0 ∨ b = 4 := by unfold x_lpb at hl; omega
  have hlb : (lp = 22 ∧ b = 0) ∨ (lp = 28 ∧ b = 4) := by unfold x_lpb at hl; omega
  have hmd : mode = 0 ∨ mode = 1 := by
    rcases hl with ⟨-, -, h⟩ | ⟨-, -, h⟩
    · exact Or.inl h
    · exact Or.inr h
  have hcl := x_lc_cl hw f4 hmd
  obtain ⟨y1, y2, y3, y4⟩ := hx.lt hl
  by_cases h5 : I lp 5 = I 10 10
  · rw [show x_g30 L I D lp b N ch = 0 from if_pos (Or.inl (h5.trans hch))]
    refine (c30o (l := l) (n := n) (L := L) (J := J) hS hL.1 h5 mode).mono (fun r h' q => ?_)
    obtain ⟨rfl, rfl⟩ := q
    exact ⟨rfl, n, K, L, I, J, G, D, rfl, hx, Nat.le_refl _, fun _ _ _ => ⟨rfl, rfl⟩, Nat.le_refl _, h5.trans hch, rfl, rfl⟩
  have h5' : ¬ I lp 5 = nI ch := by rw [← hch]; exact h5
  by_cases hS2 : 2 ^ N ≤ L (D b)
  · rw [show x_g30 L I D lp b N ch = 0 from if_pos (Or.inr hS2)]
    refine (c30a (l := l) (n := n) (J := J) hS hx.C hL h5 f3 f4 hS2 f1 f2 ⟨(hx.gD (i := b) (by omega)).2.2.1, (hx.gD (i := b) (by omega)).2.2.2.1, (hx.gD (i := b) (by omega)).2.2.2.2⟩ hlp mode).mono (fun r h' q => ?_)
    obtain ⟨rfl, I', rfl, o1, o2, i0, i1, i5, ic, i4, il⟩ := q
    rw [hcl] at ic i4 il
    rw [hch] at i5
    refine ⟨rfl, n, K, L, I', J, G, D, rfl, ?_, Nat.le_refl _, fun q x1 x2 => ⟨o1 q (by have := hx.gD (i := b) (by omega); omega) (by have := hx.gD (i := b + 1) (by omega); omega) (by omega), rfl⟩, Nat.le_refl _, i5, o2 9 (by decide) (by decide) (by decide) (by decide), rfl⟩
    refine hx.la (a := 0) (s := 0) hl (Nat.le_refl _) hS ⟨fun _ _ => ⟨rfl, rfl, rfl⟩, fun _ _ _ => rfl, fun _ _ _ => rfl⟩ hXD (fun _ _ _ => rfl) (fun q _ x1 x2 => o1 q (x2 b (by omega) (by omega)) (x2 (b + 1) (by omega) (by omega)) x1) ⟨Or.inr ⟨ch, Nat.le_refl _, i5⟩, by rw [o2 9 (by decide) (by decide) (by decide) (by decide)]; exact y2, fun _ => ⟨i0, i1, hS2, ic, i4, il⟩, fun q => ?_⟩
    rw [o2 9 (by decide) (by decide) (by decide) (by decide)] at q
    exact absurd (y4 q).1 h5'
  · rw [show x_g30 L I D lp b N ch = 1 from if_neg (fun q => q.elim h5' hS2), Nat.mul_one, Nat.mul_one]
    refine (c30b (l := l) (n := n) (J := J) hS hx.C hL h5 f3 f4 hS2 f1 f2 hn hlp mode).mono (fun r h' q => ?_)
    obtain ⟨rfl, K', L', I', J', G', rfl, hz, hL', o1, o2, i0, i1, i5, ic, i4, il⟩ := q
    rw [hcl] at ic i4 il
    rw [hch] at i5
    have hS' : SS K' L' G' := zGr.SS hz hn (Or.inl ⟨hlp, Or.inl ⟨rfl, rfl⟩⟩) hS
    obtain ⟨l1, l2, l3, l4, l5, l6, l7, l8, -⟩ := id hL'
    obtain ⟨D', eD⟩ : ∃ D' : Nat → Nat, ∀ i, D' i = if i = b then n else if i = b + 1 then n + 1 else D i := ⟨_, fun _ => rfl⟩
    have e1 : D' b = n := by rw [eD, if_pos rfl]
    have e2 : D' (b + 1) = n + 1 := by rw [eD, if_neg (by omega), if_pos rfl]
    have eo : ∀ i, i ≠ b → i ≠ b + 1 → D' i = D i := fun i x y => by rw [eD, if_neg x, if_neg y]
    have hXD' : XDy (n + 2) K' L' G' D' := hXD.gr2 hn (i1 := b) (i2 := b + 1) (s1 := 2) (s2 := 3) (e := N) hz (Or.inl ⟨rfl, rfl⟩) (by omega) (Or.inl ⟨rfl, rfl⟩) f4 ⟨l2, l3, l4⟩ ⟨l6, l7, l8⟩ e1 e2 eo
    have eL : ∀ i, i < 10 → i ≠ b → i ≠ b + 1 → L' (D' i) = L (D i) := fun i hi x y => by rw [eo i x y, (hz.1 _ (hXD.lt hi)).2.1]
    refine ⟨rfl, n + 2, K', L', I', J', G', D', rfl, ?_, ?_, fun q x1 x2 => ⟨o1 q (by omega) (by omega), (hz.1 q (by omega)).2.2⟩, by omega, i5, o2 9 (by decide) (by decide) (by decide) (by decide), eL _ (by omega) (by omega) (by omega)⟩
    · refine hx.la hl (by omega) hS' hz hXD' (fun i hi hbi => eo i (by omega) (by omega)) (fun q x0 x1 x2 => o1 q x0 x1) ⟨Or.inr ⟨ch, Nat.le_refl _, i5⟩, by rw [o2 9 (by decide) (by decide) (by decide) (by decide)]; exact y2, fun _ => ⟨i0, i1, by rw [e1, l4]; exact Nat.le_refl _, by rw [e1]; exact ic, i4, by rw [e2]; exact il⟩, fun q => ?_⟩
      rw [o2 9 (by decide) (by decide) (by decide) (by decide)] at q
      exact absurd (y4 q).1 h5'
    · have hw2 : p_w2 12 (L (D b)) := by
        rcases hb with rfl | rfl
        · exact (hXD.at (i := 0) rfl).2.2.1
        · exact (hXD.at (i := 4) rfl).2.2.1
      have := hw2.half hS2
      have l4' : L' (D' b) = 2 ^ N := by rw [e1, l4]
      unfold x_u
      rcases hb with rfl | rfl
      · rw [eL 2 (by omega) (by omega) (by omega), eL 4 (by omega) (by omega) (by omega), eL 6 (by omega) (by omega) (by omega), eL 8 (by omega) (by omega) (by omega), eL 9 (by omega) (by omega) (by omega), l4']
        omega
      · rw [eL 0 (by omega) (by omega) (by omega), eL 2 (by omega) (by omega) (by omega), eL 6 (by omega) (by omega) (by omega), eL 8 (by omega) (by omega) (by omega), eL 9 (by omega) (by omega) (by omega), l4']
        omega
/-- the rules -/
theorem c33x (hx : XI n K L I J G M c F N tr cd D ch rr) {lp b : Nat} {mode : Int32} (hl : x_lpb lp b mode) (h5 : I lp 5 = nI ch) : z_Ctr l 1 33 [.ref lp] (n, K, L, I, J, G) (2 * x_g33 L I D lp b N ch) (2 * 2 ^ N * x_g33 L I D lp b N ch) (fun r h' => r = none ∧ x_gp n I J M c F N tr cd ch rr (x_u L D + 2 * 2 ^ N * x_g33 L I D lp b N ch) (fun I' _ _ => I' lp 5 = nI ch ∧ I' lp 9 = nI ch) h') := by
  have hS : SS K L G := hx.S
  obtain ⟨f1, f2, f3, f4⟩ := hx.fn
  have hXD := hx.1.2.2.2.1
  have hn := hx.1.2.2.1
  obtain ⟨hL, hL2⟩ := hXD.XL hS hl
  have hlp : lp = 22 ∨ lp = 28 := by unfold x_lpb at hl; omega
  have hb : b = 0 ∨ b = 4 := by unfold x_lpb at hl; omega
  have hlb : (lp = 22 ∧ b = 0) ∨ (lp = 28 ∧ b = 4) := by unfold x_lpb at hl; omega
  obtain ⟨y1, y2, y3, y4⟩ := hx.lt hl
  obtain ⟨i0, i1, i2, i3, i4, il⟩ := y3 h5
  by_cases h9 : I lp 9 = I lp 5
  · rw [show x_g33 L I D lp b N ch = 0 from if_pos (Or.inl (h9.trans h5))]
    refine (c33o (l := l) (n := n) (L := L) (J := J) (G := G) hL.1 h9).mono (fun r h' q => ?_)
    obtain ⟨rfl, rfl⟩ := q
    exact ⟨rfl, n, K, L, I, J, G, D, rfl, hx, Nat.le_refl _, fun _ _ _ => ⟨rfl, rfl⟩, Nat.le_refl _, h5, h9.trans h5⟩
  by_cases hS2 : 2 ^ N ≤ L (D (b + 2))
  · rw [show x_g33 L I D lp b N ch = 0 from if_pos (Or.inr hS2)]
    refine (c33a (l := l) (n := n) (J := J) hL hL2 h9 f4 i2 hS2 i0 i1 i3).mono (fun r h' q => ?_)
    obtain ⟨rfl, I', rfl, o1, o2, j9, j8, jl⟩ := q
    rw [h5] at j9
    have j5 : I' lp 5 = nI ch := by rw [o2 5 (by decide) (by decide)]; exact h5
    have inj := hXD.2.1
    have ne : ∀ i j, i < 10 → j < 10 → i ≠ j → D i ≠ D j := fun i j x y z q => z (inj i j x y q)
    have eb : I' (D b) = I (D b) := o1 _ hL.2.2.2.2.2.2.2.2.1 (ne _ _ (by omega) (by omega) (by omega)) (ne _ _ (by omega) (by omega) (by omega))
    have eb1 : I' (D (b + 1)) = I (D (b + 1)) := o1 _ hL.2.2.2.2.2.2.2.2.2.1 (ne _ _ (by omega) (by omega) (by omega)) (ne _ _ (by omega) (by omega) (by omega))
    refine ⟨rfl, n, K, L, I', J, G, D, rfl, ?_, Nat.le_refl _, fun q x1 x2 => ⟨o1 q (by omega) (by have := hx.gD (i := b + 2) (by omega); omega) (by have := hx.gD (i := b + 3) (by omega); omega), rfl⟩, Nat.le_refl _, j5, j9⟩
    exact hx.la (a := 0) (s := 0) hl (Nat.le_refl _) hS ⟨fun _ _ => ⟨rfl, rfl, rfl⟩, fun _ _ _ => rfl, fun _ _ _ => rfl⟩ hXD (fun _ _ _ => rfl) (fun q _ x1 x2 => o1 q x1 (x2 (b + 2) (by omega) (by omega)) (x2 (b + 3) (by omega) (by omega))) ⟨Or.inr ⟨ch, Nat.le_refl _, j5⟩, Or.inr ⟨ch, Nat.le_refl _, j9⟩, fun _ => ⟨by rw [o2 0 (by decide) (by decide)]; exact i0, by rw [o2 1 (by decide) (by decide)]; exact i1, i2, by rw [eb]; exact i3, by rw [o2 4 (by decide) (by decide)]; exact i4, by rw [eb1]; exact il⟩, fun _ => ⟨j5, hS2, j8, jl⟩⟩
  · rw [show x_g33 L I D lp b N ch = 1 from if_neg (fun q => q.elim (fun z => h9 (z.trans h5.symm)) hS2), Nat.mul_one, Nat.mul_one]
    refine (c33b (l := l) (n := n) (J := J) hL hL2 h9 f4 i2 hS2 i0 i1 i3 (by omega) (hXD.lt (by omega)) (hXD.lt (by omega))).mono (fun r h' q => ?_)
    obtain ⟨rfl, K', L', I', J', G', rfl, hz, hL', hL2', o1, o2, j9, j8, jl⟩ := q
    rw [h5] at j9
    have j5 : I' lp 5 = nI ch := by rw [o2 5 (by decide) (by decide)]; exact h5
    have hS' : SS K' L' G' := zGr.SS (a := 6) (b := 7) ⟨hz.1, hz.2.1, fun k x y => hz.2.2 k y x⟩ hn (Or.inl ⟨hlp, Or.inr ⟨rfl, rfl⟩⟩) hS
    obtain ⟨l1, l2, l3, l4, l5, l6, l7, -⟩ := id hL2'
    obtain ⟨D', eD⟩ : ∃ D' : Nat → Nat, ∀ i, D' i = if i = b + 2 then n + 1 else if i = b + 3 then n else D i := ⟨_, fun _ => rfl⟩
    have e1 : D' (b + 2) = n + 1 := by rw [eD, if_pos rfl]
    have e2 : D' (b + 3) = n := by rw [eD, if_neg (by omega), if_pos rfl]
    have eo : ∀ i, i ≠ b + 2 → i ≠ b + 3 → D' i = D i := fun i x y => by rw [eD, if_neg x, if_neg y]
    have hXD' : XDy (n + 2) K' L' G' D' := hXD.gr2 hn (i1 := b + 2) (i2 := b + 3) (s1 := 6) (s2 := 7) (e := N) hz (Or.inr ⟨rfl, rfl⟩) (by omega) (Or.inr ⟨rfl, rfl⟩) f4 ⟨l1, l2, l3⟩ ⟨l5, l6, l7⟩ e1 e2 eo
    have eL : ∀ i, i < 10 → i ≠ b + 2 → i ≠ b + 3 → L' (D' i) = L (D i) := fun i hi x y => by rw [eo i x y, (hz.1 _ (hXD.lt hi)).2.1]
    have eb : I' (D' b) = I (D b) := by rw [eo b (by omega) (by omega)]; exact o1 _ (hXD.lt (by omega)) hL.2.2.2.2.2.2.2.2.1
    have eb1 : I' (D' (b + 1)) = I (D (b + 1)) := by rw [eo (b + 1) (by omega) (by omega)]; exact o1 _ (hXD.lt (by omega)) hL.2.2.2.2.2.2.2.2.2.1
    refine ⟨rfl, n + 2, K', L', I', J', G', D', rfl, ?_, ?_, fun q x1 x2 => ⟨o1 q (by omega) (by omega), (hz.1 q (by omega)).2.2⟩, by omega, j5, j9⟩
    · exact hx.la hl (by omega) hS' hz hXD' (fun i hi hbi => eo i (by omega) (by omega)) (fun q x0 x1 x2 => o1 q x0 x1) ⟨Or.inr ⟨ch, Nat.le_refl _, j5⟩, Or.inr ⟨ch, Nat.le_refl _, j9⟩, fun _ => ⟨by rw [o2 0 (by decide) (by decide)]; exact i0, by rw [o2 1 (by decide) (by decide)]; exact i1, by rw [eL b (by omega) (by omega) (by omega)]; exact i2, by rw [eb]; exact i3, by rw [o2 4 (by decide) (by decide)]; exact i4, by rw [eb1]; exact il⟩, fun _ => ⟨j5, by rw [e1, l3]; exact Nat.le_refl _, j8, by rw [e2]; exact jl⟩⟩
    · have hw2 : p_w2 12 (L (D (b + 2))) := by
        rcases hb with rfl | rfl
        · exact (hXD.at (i := 2) rfl).2.2.1
        · exact (hXD.at (i := 6) rfl).2.2.1
      have := hw2.half hS2
      have l4' : L' (D' (b + 2)) = 2 ^ N := by rw [e1, l3]
      unfold x_u
      rcases hb with rfl | rfl
      · have this : 2 * L (D 2) ≤ 2 ^ N := this
        have l4' : L' (D' 2) = 2 ^ N := l4'
        rw [eL 0 (by omega) (by omega) (by omega), eL 4 (by omega) (by omega) (by omega), eL 6 (by omega) (by omega) (by omega), eL 8 (by omega) (by omega) (by omega), eL 9 (by omega) (by omega) (by omega), l4']
        omega
      · have this : 2 * L (D 6) ≤ 2 ^ N := this
        have l4' : L' (D' 6) = 2 ^ N := l4'
        rw [eL 0 (by omega) (by omega) (by omega), eL 2 (by omega) (by omega) (by omega), eL 4 (by omega) (by omega) (by omega), eL 8 (by omega) (by omega) (by omega), eL 9 (by omega) (by omega) (by omega), l4']
        omega
end LATX2
