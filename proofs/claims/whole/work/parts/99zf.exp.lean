/-! The invariant: what changes it; exploring -/
/-- what all but the exploring see of the model -/
def mGe (M M' : Nat → Nat → Int32) : Prop := (∀ q, (72 ≤ q ∧ q ≤ 82) ∨ q = 97 → M' q = M q) ∧ ∀ k, k = 1 ∨ k = 2 ∨ k = 8 ∨ k = 9 ∨ k = 11 ∨ k = 17 ∨ k = 28 ∨ k = 29 → M' 71 k = M 71 k
section EXP
variable {L : Nat → Nat} {I I' : Nat → Nat → Int32} {J J' : Nat → Nat → Int64} {D : Nat → Nat} {M M' : Nat → Nat → Int32} {c F N c' F' N' : Nat} {tr tr' : Nat → (Int32 → Int32) → Int32} {cd ch rr : Nat}
theorem mGe.all (hm : mGe M M') : (m_st M c F N tr ∧ p_lay (M 78) 0 p_ws → m_st M' c F N tr ∧ p_lay (M' 78) 0 p_ws) ∧ (x_led I M c → x_led I M' c) ∧ (x_tab I M c F N tr cd ch → x_tab I M' c F N tr cd ch) ∧ (x_tap I M → x_tap I M') ∧ (x_flt I M → x_flt I M') ∧ (∀ lp b mode, x_lat L I D M c F N tr lp b mode ch → x_lat L I D M' c F N tr lp b mode ch) ∧ (x_sez L I J D M c N tr ch rr → x_sez L I J D M' c N tr ch rr) ∧ (x_crz I M c N tr ch → x_crz I M' c N tr ch) ∧ (x_kyz L I D M c F N tr ch rr → x_kyz L I D M' c F N tr ch rr) := by
  have e72 : M' 72 = M 72 := hm.1 72 (by omega)
  have e73 : M' 73 = M 73 := hm.1 73 (by omega)
  have e74 : M' 74 = M 74 := hm.1 74 (by omega)
  have e75 : M' 75 = M 75 := hm.1 75 (by omega)
  have e76 : M' 76 = M 76 := hm.1 76 (by omega)
  have e77 : M' 77 = M 77 := hm.1 77 (by omega)
  have e78 : M' 78 = M 78 := hm.1 78 (by omega)
  have e79 : M' 79 = M 79 := hm.1 79 (by omega)
  have e80 : M' 80 = M 80 := hm.1 80 (by omega)
  have e81 : M' 81 = M 81 := hm.1 81 (by omega)
  have e82 : M' 82 = M 82 := hm.1 82 (by omega)
  have e97 : M' 97 = M 97 := hm.1 97 (by omega)
  have f1 : M' 71 1 = M 71 1 := hm.2 _ (by omega)
  have f2 : M' 71 2 = M 71 2 := hm.2 _ (by omega)
  have f3 : M' 71 8 = M 71 8 := hm.2 _ (by omega)
  have f4 : M' 71 9 = M 71 9 := hm.2 _ (by omega)
  have f5 : M' 71 11 = M 71 11 := hm.2 _ (by omega)
  have f6 : M' 71 17 = M 71 17 := hm.2 _ (by omega)
  have f7 : M' 71 28 = M 71 28 := hm.2 _ (by omega)
  have f8 : M' 71 29 = M 71 29 := hm.2 _ (by omega)
  have r1 : ∀ k d i f, mT M' c tr k d i f = mT M c tr k d i f := fun k d i f => by unfold mT mI_known; rw [e72, e73, e74, e75, e76]
  have r2 : mT M' c tr (M 71 8) (M 71 9) = mT M c tr (M 71 8) (M 71 9) := by funext i f; exact r1 _ _ i f
  have r3 : ∀ mode, mR M' c N tr mode = mR M c N tr mode := fun mode => by funext f; unfold mR; rw [f3, f4, r2]
  have r4 : ∀ v, mYs M' c F tr v = mYs M c F tr v := fun v => by
    funext i
    unfold mYs
    have : mTv M' c tr i = mTv M c tr i := by funext f; unfold mTv; rw [f3, f4]; exact r1 _ _ i f
    rw [this]
  have r5 : ∀ mode, x_cl M' c F N tr mode = x_cl M c F N tr mode := fun mode => by funext s; unfold x_cl; rw [r3]
  refine ⟨fun h1 => ⟨?_, by rw [e78]; exact h1.2⟩, fun h2 => ?_, fun h3 => ?_, fun h4 => ?_, fun h5 => ?_, fun lp b mode h6 => ?_, fun h9 => ?_, fun h10 => ?_, fun h11 => ?_⟩
  · have h1 := h1.1
    unfold m_st m_scale m_code at *
    rw [f1, f2, f6, e79, e80, e81, e82]
    exact h1
  · unfold x_led l_ok at *
    rw [e72, e73, e74, e75, e76]
    exact h2
  · unfold x_tab l_kv at *
    rw [f3, f4]
    simp only [mI_kn, e72, e73, e74, e75, e76] at *
    exact h3
  · unfold x_tap at *
    rw [f5, e77]
    exact h4
  · unfold x_flt at *
    rw [f7, f8]
    exact h5
  · unfold x_lat at *
    rw [r5]
    exact h6
  · unfold x_sez at *
    simp only [r3]
    exact h9
  · unfold x_crz at *
    simp only [r3]
    exact h10
  · unfold x_kyz at *
    rw [r4, r4, e97]
    exact h11
theorem a_ge.ne {v : Int32} (h : a_ge v ch) (hc : ch < 2 ^ 30) : ¬ v = nI (ch + 1) := by
  rcases h with rfl | ⟨a, ha, rfl⟩
  · exact fun q => nI_neg1 (k := ch + 1) (by omega) q.symm
  · exact fun q => by
      have := (nI_eq (by omega) (by omega)).mp q
      omega
theorem a_ge.up {v : Int32} (h : a_ge v ch) : a_ge v (ch + 1) := h.elim Or.inl (fun ⟨a, ha, e⟩ => Or.inr ⟨a, by omega, e⟩)
/-- caches grow old -/
theorem x_lat.old {lp b : Nat} {mode : Int32} (h : x_lat L I D M c F N tr lp b mode ch) (hc : ch < 2 ^ 30) : x_lat L I D M' c' F' N' tr' lp b mode (ch + 1) := ⟨h.1.up, h.2.1.up, fun q => absurd q (h.1.ne hc), fun q => absurd q (h.2.1.ne hc)⟩
theorem x_sez.old (h : x_sez L I J D M c N tr ch rr) (hc : ch < 2 ^ 30) : x_sez L I J D M' c' N' tr' (ch + 1) (rr + 1) := by
  obtain ⟨R, h1, h2, h3, h4, h5⟩ := h
  exact ⟨R, h1, by omega, h3.up, h4, fun q => absurd q (h3.ne hc)⟩
theorem x_crz.old (h : x_crz I M c N tr ch) (hc : ch < 2 ^ 30) : x_crz I M' c' N' tr' (ch + 1) := ⟨h.1.up, fun q => absurd q (h.1.ne hc)⟩
theorem x_kyz.old (h : x_kyz L I D M c F N tr ch rr) (hc : ch < 2 ^ 30) (e : M' 97 = M 97) : x_kyz L I D M' c' F' N' tr' (ch + 1) (rr + 1) := by
  obtain ⟨h0, R, h1, h2, h3, h4, h5⟩ := h
  refine ⟨by rw [e]; exact h0, R, h1, by omega, h3.up, h4, fun q => absurd q (h3.ne hc)⟩
/-- only the exploring has changed -/
theorem XI.ex {n : Nat} {K : Nat → Nat} {G : Nat → Nat → Value} (hx : XI n K L I J G M c F N tr cd D ch rr) (hI : ∀ q, ¬ (34 ≤ q ∧ q ≤ 37) → I' q = I q) (hm : mGe M M') (hq : x_exq I' M') : XI n K L I' J G M' c F N tr cd D ch rr := by
  obtain ⟨h0, h1, h2, h3, h4, h5, h6, h7, h8, h9, h10, h11⟩ := hx
  have hD : ∀ i, i < 10 → I' (D i) = I (D i) := fun i hi => by
    obtain ⟨p, h1, -, h2, -⟩ := h0.2.2.2.1.pl hi
    have hp : ¬ (34 ≤ p ∧ p ≤ 37) ∧ p < 70 := by
      revert h1
      simp only [List.mem_cons, List.not_mem_nil, or_false]
      omega
    exact hI _ (by omega)
  have hcd : cd = 12 ∨ cd = 65 := h0.2.1.1
  obtain ⟨g1, g2, g3, g4, g5, g6, g7, g8, g9⟩ := mGe.all (L := L) (I := I') (J := J) (D := D) (c := c) (F := F) (N := N) (tr := tr) (cd := cd) (ch := ch) (rr := rr) hm
  exact ⟨h0, g1 h1, g2 (h2.cg (fun q _ _ => hI q (by omega))), g3 (h3.cg (hI _ (by omega)) (hI _ (by omega)) (hI _ (by omega)) (hI _ (by omega)) (hI _ (by omega)) (by show I' cd 3 = I cd 3; rw [hI cd (by omega)]) (hI _ (by omega)) (hI _ (by omega))), g4 (h4.cg (by show I' 5 8 = I 5 8; rw [hI 5 (by omega)]) (hI _ (by omega))), g5 (h5.cg (hI _ (by omega))), g6 22 0 0 (h6.cg (hI _ (by omega)) (hD 0 (by omega)) (hD 1 (by omega)) (hD 3 (by omega))), g6 28 4 1 (h7.cg (hI _ (by omega)) (hD 4 (by omega)) (hD 5 (by omega)) (hD 7 (by omega))), hq, g7 (h9.cg (fun q _ _ => hI q (by omega)) rfl rfl), g8 (h10.cg (fun q _ _ => hI q (by omega))), g9 (h11.cg (fun q _ _ => hI q (by omega)) (hD 9 (by omega)))⟩
end EXP
