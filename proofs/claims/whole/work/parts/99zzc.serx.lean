/-! The rows under the invariant -/
section SERX
variable {I : Nat → Nat → Int32} {F : Nat}
theorem x_pz.row {row row' : Nat → Int32} {s bc : Nat} {marks : Int32} {fs : Nat → Nat} (hF : F ≤ 16) (hs : s < 2 ^ F) (h : x_pz I row (nI s) marks fs bc) (e : ∀ f, f < F → row f = row' f) : x_pz I row' (nI s) marks fs bc := by
  obtain ⟨z1, z2, z3, z4, z5, z6, z7⟩ := h
  have ek := e_rk hF hs
  have hc := s_rk_n (zb (nI s)) 16
  have ex : ∀ x, x < s_rk (zb (nI s)) 16 → row (fs x) = row' (fs x) := fun x hx => e _ ((e_fs hF z1).at (by rw [← ek]; exact hx)).1
  have eb : ∀ i, i < 12 → x_bk row fs (s_rk (zb (nI s)) 16) marks i = x_bk row' fs (s_rk (zb (nI s)) 16) marks i := fun i hi => zb_ext (fun q _ => by
    have a := x_bk_b (row := row) (fs := fs) (i := i) (marks := marks) (cn := s_rk (zb (nI s)) 16) (by omega) (q := q) (by omega)
    have b := x_bk_b (row := row') (fs := fs) (i := i) (marks := marks) (cn := s_rk (zb (nI s)) 16) (by omega) (q := q) (by omega)
    refine Bool.eq_iff_iff.mpr (a.trans (Iff.trans ?_ b.symm))
    exact ⟨fun h => ⟨h.1, h.2.1, by rw [← ex q h.2.1]; exact h.2.2⟩, fun h => ⟨h.1, h.2.1, by rw [ex q h.2.1]; exact h.2.2⟩⟩)
  refine ⟨z1, z2, z3, z4, z5, ⟨fun b hb => ?_, fun i hi => ?_⟩, z7⟩
  · obtain ⟨i, hi, e'⟩ := z6.1 b hb
    exact ⟨i, hi, by rw [← eb i hi]; exact e'⟩
  · rw [← eb i hi]
    exact z6.2 i hi
end SERX
