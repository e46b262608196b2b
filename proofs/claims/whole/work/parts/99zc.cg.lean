/-! The invariant under changes elsewhere -/
/-- what the invariant sees of the model -/
def mGG (M M' : Nat → Nat → Int32) : Prop := (∀ q, (72 ≤ q ∧ q ≤ 82) ∨ (90 ≤ q ∧ q ≤ 92) ∨ q = 97 → M' q = M q) ∧ ∀ k, mQ k → M' 71 k = M 71 k
theorem mGG.rf (M : Nat → Nat → Int32) : mGG M M := ⟨fun _ _ => rfl, fun _ _ => rfl⟩
theorem mGG.tr {M M1 M2 : Nat → Nat → Int32} (h : mGG M M1) (h2 : mGG M1 M2) : mGG M M2 := ⟨fun q hq => (h2.1 q hq).trans (h.1 q hq), fun k hk => (h2.2 k hk).trans (h.2 k hk)⟩
theorem mF.G {M M' : Nat → Nat → Int32} (h : mF M M') : mGG M M' := ⟨fun q hq => h.1 q (by unfold mP; omega), h.2⟩
section CG
variable {L : Nat → Nat} {I I' : Nat → Nat → Int32} {J J' : Nat → Nat → Int64} {D : Nat → Nat} {M M' : Nat → Nat → Int32} {c F N : Nat} {tr : Nat → (Int32 → Int32) → Int32} {cd ch rr : Nat}
theorem x_led.cg (h : x_led I M c) (e : ∀ q, 6 ≤ q → q ≤ 9 → I' q = I q) : x_led I' M c := by
  unfold x_led l_ok at *
  rw [e 6 (by omega) (by omega), e 7 (by omega) (by omega), e 8 (by omega) (by omega), e 9 (by omega) (by omega)]
  exact h
theorem x_tab.cg (h : x_tab I M c F N tr cd ch) (e10 : I' 10 = I 10) (e11 : I' 11 = I 11) (e16 : I' 16 = I 16) (e17 : I' 17 = I 17) (e18 : I' 18 = I 18) (e1 : I' cd 3 = I cd 3) (e2 : I' (cd + 1) = I (cd + 1)) (e3 : I' (cd + 2) = I (cd + 2)) : x_tab I' M c F N tr cd ch := by
  obtain ⟨a1, a2, a3, a4, a5, a6, a7, a8, a9, a10⟩ := h
  refine ⟨by rw [e10]; exact a1, by rw [e10]; exact a2, by rw [e10]; exact a3, a4, fun k f m hk hf hm => by rw [e11]; exact a5 k f m hk hf hm, a6.congr e1 e2 e3, a7, fun f hf h0 => ?_, fun f hf => by rw [e18]; exact a9 f hf, by rw [e10]; exact a10⟩
  have eT : x_T I' tr f = x_T I tr f := by funext i; unfold x_T; rw [e10, e11]
  rw [e18] at h0
  rw [e16, e17, eT]
  exact a8 f hf h0
theorem x_tap.cg (h : x_tap I M) (e5 : I' 5 8 = I 5 8) (e59 : I' 59 = I 59) : x_tap I' M := by
  unfold x_tap at *
  rw [e5, e59]
  exact h
theorem x_flt.cg (h : x_flt I M) (e : I' 60 = I 60) : x_flt I' M := by
  unfold x_flt at *
  rw [e]
  exact h
theorem x_lat.cg {lp b : Nat} {mode : Int32} (h : x_lat L I D M c F N tr lp b mode ch) (e : I' lp = I lp) (e0 : I' (D b) = I (D b)) (e1 : I' (D (b + 1)) = I (D (b + 1))) (e3 : I' (D (b + 3)) = I (D (b + 3))) : x_lat L I' D M c F N tr lp b mode ch := by
  unfold x_lat at *
  rw [e, e0, e1, e3]
  exact h
theorem x_exq.cg (h : x_exq I M) (e34 : I' 34 = I 34) (e35 : I' 35 = I 35) (e36 : I' 36 = I 36) (e37 : I' 37 = I 37) : x_exq I' M := by
  unfold x_exq x_ex x_ah at *
  simp only [x_ekp, x_ecl, e34, e35, e36, e37] at *
  exact h
theorem x_sez.cg (h : x_sez L I J D M c N tr ch rr) (e : ∀ q, 38 ≤ q → q ≤ 41 → I' q = I q) (j1 : J' 38 = J 38) (j2 : J' (D 8) = J (D 8)) : x_sez L I' J' D M c N tr ch rr := by
  have a := e 38 (by omega) (by omega)
  have b := e 39 (by omega) (by omega)
  have c' := e 40 (by omega) (by omega)
  have d := e 41 (by omega) (by omega)
  unfold x_sez s_memo x_pz at *
  simp only [xV, a, b, c', d, j1, j2] at *
  exact h
theorem x_crz.cg (h : x_crz I M c N tr ch) (e : ∀ q, 43 ≤ q → q ≤ 52 → I' q = I q) : x_crz I' M c N tr ch := by
  unfold x_crz x_pc at *
  rw [e 43 (by omega) (by omega), e 44 (by omega) (by omega), e 52 (by omega) (by omega)]
  exact h
theorem x_kyz.cg (h : x_kyz L I D M c F N tr ch rr) (e : ∀ q, 53 ≤ q → q ≤ 56 → I' q = I q) (e9 : I' (D 9) = I (D 9)) : x_kyz L I' D M c F N tr ch rr := by
  unfold x_kyz k_memo at *
  rw [e 53 (by omega) (by omega), e 54 (by omega) (by omega), e 55 (by omega) (by omega), e 56 (by omega) (by omega), e9]
  exact h
theorem XDy.pl {n : Nat} {K L : Nat → Nat} {G : Nat → Nat → Value} {D : Nat → Nat} (h : XDy n K L G D) {i : Nat} (hi : i < 10) : ∃ p, p ∈ [23, 24, 25, 26, 29, 30, 31, 32, 42, 57] ∧ [23, 24, 25, 26, 29, 30, 31, 32, 42, 57][i]? = some p ∧ (D i = p ∨ 103 ≤ D i) ∧ D i < n := by
  have hd : ∀ i, i < 10 → ∃ r, d_tb[i]? = some r ∧ [23, 24, 25, 26, 29, 30, 31, 32, 42, 57][i]? = some r.2.2.1 ∧ r.2.2.1 ∈ [23, 24, 25, 26, 29, 30, 31, 32, 42, 57] := by
    intro i hi
    have : i = 0 ∨ i = 1 ∨ i = 2 ∨ i = 3 ∨ i = 4 ∨ i = 5 ∨ i = 6 ∨ i = 7 ∨ i = 8 ∨ i = 9 := by omega
    rcases this with rfl | rfl | rfl | rfl | rfl | rfl | rfl | rfl | rfl | rfl <;> exact ⟨_, rfl, rfl, by decide⟩
  obtain ⟨r, h1, h2, h3⟩ := hd i hi
  obtain ⟨_, _, _, h4, h5⟩ := h.1 i r h1
  exact ⟨_, h3, h2, h4, h5⟩
theorem XDy.x {n : Nat} {K L : Nat → Nat} {G : Nat → Nat → Value} {D : Nat → Nat} (h : XDy n K L G D) {i : Nat} (hi : i < 10) : (D i < 71 ∨ 103 ≤ D i) ∧ D i ≠ 93 ∧ D i ≠ 38 := by
  obtain ⟨p, h1, -, h2, -⟩ := h.pl hi
  have hp : p < 71 ∧ p ≠ 38 := by
    revert h1
    simp only [List.mem_cons, List.not_mem_nil, or_false]
    omega
  omega
/-- behind a call of the model -/
theorem XI.h {n : Nat} {K : Nat → Nat} {G : Nat → Nat → Value} (h : XI n K L I J G M c F N tr cd D ch rr) (hI : ∀ q, (q < 71 ∨ 103 ≤ q) → I' q = I q) (hJ : ∀ q, q ≠ 93 → J' q = J q) : XI n K L I' J' G M c F N tr cd D ch rr := by
  obtain ⟨h0, h1, h2, h3, h4, h5, h6, h7, h8, h9, h10, h11⟩ := h
  have hD : ∀ i, i < 10 → I' (D i) = I (D i) ∧ J' (D i) = J (D i) := fun i hi => by
    obtain ⟨a, b, _⟩ := h0.2.2.2.1.x hi
    exact ⟨hI _ a, hJ _ b⟩
  have hcd : cd = 12 ∨ cd = 65 := h0.2.1.1
  exact ⟨h0, h1, h2.cg (fun q _ _ => hI q (by omega)), h3.cg (hI _ (by omega)) (hI _ (by omega)) (hI _ (by omega)) (hI _ (by omega)) (hI _ (by omega)) (by show I' cd 3 = I cd 3; rw [hI cd (by omega)]) (hI _ (by omega)) (hI _ (by omega)), h4.cg (by show I' 5 8 = I 5 8; rw [hI 5 (by omega)]) (hI _ (by omega)), h5.cg (hI _ (by omega)), h6.cg (hI _ (by omega)) (hD 0 (by omega)).1 (hD 1 (by omega)).1 (hD 3 (by omega)).1, h7.cg (hI _ (by omega)) (hD 4 (by omega)).1 (hD 5 (by omega)).1 (hD 7 (by omega)).1, h8.cg (hI _ (by omega)) (hI _ (by omega)) (hI _ (by omega)) (hI _ (by omega)), h9.cg (fun q _ _ => hI q (by omega)) (hJ 38 (by omega)) (hD 8 (by omega)).2, h10.cg (fun q _ _ => hI q (by omega)), h11.cg (fun q _ _ => hI q (by omega)) (hD 9 (by omega)).1⟩
/-- another model that looks the same -/
theorem XI.m {n : Nat} {K : Nat → Nat} {G : Nat → Nat → Value} (hx : XI n K L I J G M c F N tr cd D ch rr) (hm : mGG M M') : XI n K L I J G M' c F N tr cd D ch rr := by
  have e72 : M' 72 = M 72 := hm.1 72 (by omega)
  have e73 : M' 73 = M 73 := hm.1 73 (by omega)
  have e74 : M' 74 = M 74 := hm.1 74 (by omega)
  have e75 : M' 75 = M 75 := hm.1 75 (by omega)
  have e76 : M' 76 = M 76 := hm.1 76 (by omega)
  have e77 : M' 77 = M 77 := hm.1 77 (by omega)
  have e78 : M' 78 = M 78 := hm.1 78 (by omega)
  have e79 : M' 79 = M 79 := hm.1 79 (by omega)
  have e80 : M' 80 = M 80 := hm.1 80 (by omega)
  have e81 : M' 81 = M 81 := hm.1 81 (by omega)
  have e82 : M' 82 = M 82 := hm.1 82 (by omega)
  have e90 : M' 90 = M 90 := hm.1 90 (by omega)
  have e91 : M' 91 = M 91 := hm.1 91 (by omega)
  have e92 : M' 92 = M 92 := hm.1 92 (by omega)
  have e97 : M' 97 = M 97 := hm.1 97 (by omega)
  have f1 : M' 71 1 = M 71 1 := hm.2 _ (by unfold mQ; omega)
  have f2 : M' 71 2 = M 71 2 := hm.2 _ (by unfold mQ; omega)
  have f3 : M' 71 8 = M 71 8 := hm.2 _ (by unfold mQ; omega)
  have f4 : M' 71 9 = M 71 9 := hm.2 _ (by unfold mQ; omega)
  have f5 : M' 71 11 = M 71 11 := hm.2 _ (by unfold mQ; omega)
  have f6 : M' 71 17 = M 71 17 := hm.2 _ (by unfold mQ; omega)
  have f7 : M' 71 28 = M 71 28 := hm.2 _ (by unfold mQ; omega)
  have f8 : M' 71 29 = M 71 29 := hm.2 _ (by unfold mQ; omega)
  have f9 : M' 71 38 = M 71 38 := hm.2 _ (by unfold mQ; omega)
  have f10 : M' 71 39 = M 71 39 := hm.2 _ (by unfold mQ; omega)
  have f11 : M' 71 40 = M 71 40 := hm.2 _ (by unfold mQ; omega)
  have f12 : M' 71 42 = M 71 42 := hm.2 _ (by unfold mQ; omega)
  have r1 : ∀ k d i f, mT M' c tr k d i f = mT M c tr k d i f := fun k d i f => by unfold mT mI_known; rw [e72, e73, e74, e75, e76]
  have r2 : mT M' c tr (M 71 8) (M 71 9) = mT M c tr (M 71 8) (M 71 9) := by funext i f; exact r1 _ _ i f
  have r3 : ∀ mode, mR M' c N tr mode = mR M c N tr mode := fun mode => by funext f; unfold mR; rw [f3, f4, r2]
  have r4 : ∀ v, mYs M' c F tr v = mYs M c F tr v := fun v => by
    funext i
    unfold mYs
    have : mTv M' c tr i = mTv M c tr i := by funext f; unfold mTv; rw [f3, f4]; exact r1 _ _ i f
    rw [this]
  have r5 : ∀ mode, x_cl M' c F N tr mode = x_cl M c F N tr mode := fun mode => by funext s; unfold x_cl; rw [r3]
  obtain ⟨h0, h1, h2, h3, h4, h5, h6, h7, h8, h9, h10, h11⟩ := hx
  refine ⟨h0, ⟨?_, by rw [e78]; exact h1.2⟩, ?_, ?_, ?_, ?_, ?_, ?_, ?_, ?_, ?_, ?_⟩
  · have h1 := h1.1
    unfold m_st m_scale m_code at *
    rw [f1, f2, f6, e79, e80, e81, e82]
    exact h1
  · unfold x_led l_ok at *
    rw [e72, e73, e74, e75, e76]
    exact h2
  · unfold x_tab l_kv at *
    rw [f3, f4]
    simp only [mI_kn, e72, e73, e74, e75, e76] at *
    exact h3
  · unfold x_tap at *
    rw [f5, e77]
    exact h4
  · unfold x_flt at *
    rw [f7, f8]
    exact h5
  · unfold x_lat at *
    rw [r5]
    exact h6
  · unfold x_lat at *
    rw [r5]
    exact h7
  · unfold x_exq m_ex at *
    rw [f9, f10, f11, f12, e90, e91, e92]
    exact h8
  · unfold x_sez at *
    simp only [r3]
    exact h9
  · unfold x_crz at *
    simp only [r3]
    exact h10
  · unfold x_kyz at *
    rw [r4, r4, e97]
    exact h11
end CG
