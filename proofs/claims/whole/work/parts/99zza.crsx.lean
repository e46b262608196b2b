/-! The crossings under the invariant -/
section CRSX
variable {l : Launch} {n : Nat} {K L : Nat → Nat} {I : Nat → Nat → Int32} {J : Nat → Nat → Int64} {G : Nat → Nat → Value} {M : Nat → Nat → Int32} {c F N : Nat} {tr : Nat → (Int32 → Int32) → Int32} {cd : Nat} {D : Nat → Nat} {ch rr : Nat}
theorem x_pc.row {row row' : Nat → Int32} {s : Nat} {marks : Int32} {fs be : Nat → Nat} (hF : F ≤ 16) (hs : s < 2 ^ F) (h : x_pc I row (nI s) marks fs be) (e : ∀ f, f < F → row f = row' f) : x_pc I row' (nI s) marks fs be := by
  obtain ⟨z1, z2, z3, z4, z5, z6⟩ := h
  have ek := e_rk hF hs
  have key : ∀ v, c_P (s_rk (zb (nI s)) 16) v → c_C (fun i p => zb (row (fs p) &&& marks) i) (s_rk (zb (nI s)) 16) 12 v = c_C (fun i p => zb (row' (fs p) &&& marks) i) (s_rk (zb (nI s)) 16) 12 v := fun v hv => by
    have ex : ∀ x, x < s_rk (zb (nI s)) 16 → row (fs (v x)) = row' (fs (v x)) := fun x hx => e _ ((e_fs hF z1).at (by rw [← ek]; exact hv.1 x hx)).1
    unfold c_C
    refine s_sum_congr (fun i hi => ?_)
    have eb : ∀ x, x < s_rk (zb (nI s)) 16 → (fun x => zb (row (fs (v x)) &&& marks) i) x = (fun x => zb (row' (fs (v x)) &&& marks) i) x := fun x hx => by
      show zb (row (fs (v x)) &&& marks) i = zb (row' (fs (v x)) &&& marks) i
      rw [ex x hx]
    have e1 := c_l_congr eb
    have e2 := s_rk_congr eb
    show s_rk (fun x => zb (row (fs (v x)) &&& marks) i) _ - c_l (fun x => zb (row (fs (v x)) &&& marks) i) _ = _
    rw [e1, e2]
  exact ⟨z1, z2, z3, z4, by rw [← key be z6.1]; exact z5, z6.cg key⟩
/-- only the crossings have changed -/
theorem XI.cr {I' : Nat → Nat → Int32} (hx : XI n K L I J G M c F N tr cd D ch rr) (o : ∀ q, ¬ (43 ≤ q ∧ q ≤ 52) → I' q = I q) (h10 : x_crz I' M c N tr ch) : XI n K L I' J G M c F N tr cd D ch rr := by
  have hx0 := hx
  obtain ⟨⟨a1, a2, a3, a4, a5, a6⟩, h1, h2, h3, h4, h5, h6, h7, h8, h9, -, h11⟩ := hx
  have hD : ∀ i, i < 10 → I' (D i) = I (D i) := fun i hi => by
    obtain ⟨p, h1, -, h2, -⟩ := a4.pl hi
    simp only [List.mem_cons, List.not_mem_nil, or_false] at h1
    exact o _ (by omega)
  exact hx0.gr (Nat.le_refl _) a1 a2 a4 (fun q _ => o q (by omega)) (h6.cg (o _ (by omega)) (hD 0 (by omega)) (hD 1 (by omega)) (hD 3 (by omega))) (h7.cg (o _ (by omega)) (hD 4 (by omega)) (hD 5 (by omega)) (hD 7 (by omega))) (h9.cg (fun q _ _ => o q (by omega)) rfl rfl) h10 (h11.cg (fun q _ _ => o q (by omega)) (hD 9 (by omega)))
theorem c1x (hx : XI n K L I J G M c F N tr cd D ch rr) (hw : x_rwo I M c F N tr) {mode marks : Int32} {s : Nat} (hmd : mode = 0 ∨ mode = 1) (hs : s < 2 ^ F) (h8 : s_rk (zb (nI s)) 16 ≤ 8) : z_Ctr l 12 1 [.ref 43, .ref 10, .int mode, .int (nI s), .int marks] (n, K, L, I, J, G) 0 0 (fun r h' => r = none ∧ ∃ I' fs be, h' = (n, K, L, I', J, G) ∧ XI n K L I' J G M c F N tr cd D ch rr ∧ (∀ q, ¬ (43 ≤ q ∧ q ≤ 52) → I' q = I q) ∧ x_pc I' (mR M c N tr mode) (nI s) marks fs be) := by
  have hS : SS K L G := hx.S
  obtain ⟨f1, f2, f3, f4⟩ := hx.fn
  have hch : I 10 10 = nI ch := hx.2.2.2.1.2.2.2.2.2.2.2.2.2
  have hcz := hx.2.2.2.2.2.2.2.2.2.2.1
  by_cases h : I 43 0 = I 10 10 ∧ I 43 1 = mode ∧ I 43 2 = nI s ∧ I 43 3 = marks
  · refine (c1o (l := l) (n := n) (J := J) hS h).mono (fun r h' q => ?_)
    obtain ⟨rfl, rfl⟩ := q
    obtain ⟨fs, be, p1, p2⟩ := hcz.2 (h.1.trans hch)
    rw [h.2.1, h.2.2.1, h.2.2.2] at p1
    exact ⟨rfl, I, fs, be, rfl, hx, fun _ _ => rfl, p1⟩
  · refine (c1a (l := l) (n := n) (J := J) hS h h8).mono (fun r h' q => ?_)
    obtain ⟨rfl, I', fs, be, rfl, o, i0, i1, i2, i3, pc⟩ := q
    have pc' := x_pc.row f2 hs pc (fun f hf => hw.row f4 hmd hf)
    refine ⟨rfl, I', fs, be, rfl, hx.cr o ⟨Or.inr ⟨ch, Nat.le_refl _, by rw [i0, hch]⟩, fun _ => ⟨fs, be, by rw [i1, i2, i3]; exact pc', by rw [i2]; exact h8⟩⟩, o, pc'⟩
end CRSX
