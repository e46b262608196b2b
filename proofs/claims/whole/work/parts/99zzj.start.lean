/-! THE INVARIANT AT THE START -/
/-- the model's places alone -/
def mN (I : Nat → Nat → Int32) (q : Nat) : Nat → Int32 := bif Nat.ble 71 q && Nat.ble q 102 then I q else fun _ => 0
theorem mN_at (I : Nat → Nat → Int32) {q : Nat} (h1 : 71 ≤ q) (h2 : q ≤ 102) : mN I q = I q := by
  unfold mN
  rw [show (Nat.ble 71 q && Nat.ble q 102) = true by simp only [Bool.and_eq_true, Nat.ble_eq]; exact ⟨h1, h2⟩]
  rfl
theorem mN_eq {I I' : Nat → Nat → Int32} (h : ∀ q, 71 ≤ q → q ≤ 102 → I' q = I q) : mN I' = mN I := by
  funext q
  unfold mN
  cases e : (Nat.ble 71 q && Nat.ble q 102)
  · rfl
  · simp only [Bool.and_eq_true, Nat.ble_eq] at e
    simp only [cond_true]
    exact h q e.1 e.2
theorem mN_G (I : Nat → Nat → Int32) : mGG I (mN I) := ⟨fun q hq => mN_at I (by omega) (by omega), fun _ _ => by rw [mN_at I (by omega) (by omega)]⟩
theorem mN_G' (I : Nat → Nat → Int32) : mGG (mN I) I := ⟨fun q hq => (mN_at I (by omega) (by omega)).symm, fun _ _ => by rw [mN_at I (by omega) (by omega)]⟩
def p_lB (W : Nat → Int32) : Nat → List (List Int32) → Bool
  | k, [] => decide (k = 29) && decide (W k = 32)
  | k, w :: r => decide (W k = 32) && decide (k + 1 + w.length ≤ 29) && (List.range w.length).all (fun i => decide (W (k + 1 + i) = w.getD i 0) && decide (¬ w.getD i 0 = 32)) && p_lB W (k + 1 + w.length) r
theorem p_lB_ok {W : Nat → Int32} : ∀ {ws : List (List Int32)} {k : Nat}, p_lB W k ws = true → p_lay W k ws
  | [], k, h => by
    simp only [p_lB, Bool.and_eq_true, decide_eq_true_eq] at h
    exact h
  | w :: r, k, h => by
    simp only [p_lB, Bool.and_eq_true, decide_eq_true_eq] at h
    obtain ⟨⟨⟨h1, h2⟩, h3⟩, h4⟩ := h
    refine ⟨h1, h2, fun i c hc => ?_, p_lB_ok h4⟩
    have hi := (List.getElem?_eq_some_iff.mp hc).1
    have := List.all_eq_true.mp h3 i (List.mem_range.mpr hi)
    simp only [Bool.and_eq_true, decide_eq_true_eq] at this
    have e : w.getD i 0 = c := by rw [List.getD_eq_getElem?_getD, hc]; rfl
    rw [e] at this
    exact this
def d_0 (i : Nat) : Nat := [23, 24, 25, 26, 29, 30, 31, 32, 42, 57].getD i 0
theorem e_sk : z_sk.all (fun t => decide ((e_kd e_t2 t.1).map (fun r => r.1) = some t.2)) = true := by decide +kernel
theorem e_sl : z_sl.all (fun t => decide ((e_kd e_t2 t.1).map (fun r => r.2) = some t.2)) = true := by decide +kernel
def e_gB (t : eT) (p k : Nat) : Option Nat := (t.2.2.1.find? (fun a => Nat.beq a.1 p && Nat.beq a.2.1 k)).map (fun a => a.2.2)
theorem e_gB_ok {t : eT} {p k q : Nat} (h : e_gB t p k = some q) : e_G t p k = .ref q := by
  unfold e_gB at h
  unfold e_G
  cases e : t.2.2.1.find? (fun a => Nat.beq a.1 p && Nat.beq a.2.1 k) with
  | none => rw [e] at h; cases h
  | some a => rw [e] at h; simp only [Option.map_some, Option.some.injEq] at h; simp [h]
theorem e_sg2 : z_sg.all (fun t => decide (e_gB e_t2 t.1 t.2.1 = some t.2.2)) = true := by decide +kernel
theorem e_len : e_t2.1.length = 98 := by decide +kernel
theorem e_dyn : ∀ i, i < 10 → ∃ r, d_tb[i]? = some r ∧ e_gB e_t2 r.1 r.2.1 = some (d_0 i) ∧ e_kd e_t2 (d_0 i) = some (r.2.2.2.1, 0) ∧ d_0 i = r.2.2.1 ∧ d_0 i < 103 := by
  intro i hi
  have : i = 0 ∨ i = 1 ∨ i = 2 ∨ i = 3 ∨ i = 4 ∨ i = 5 ∨ i = 6 ∨ i = 7 ∨ i = 8 ∨ i = 9 := by omega
  rcases this with rfl | rfl | rfl | rfl | rfl | rfl | rfl | rfl | rfl | rfl <;> exact ⟨_, rfl, by decide +kernel, by decide +kernel, by decide +kernel, by decide +kernel⟩
section START
variable {n : Nat} {K L : Nat → Nat} {I : Nat → Nat → Int32} {J : Nat → Nat → Int64} {G : Nat → Nat → Value}
theorem e_vl (H : e_H e_t2 (n, K, L, I, J, G)) (p k : Nat) (hp : e_t2.2.2.2.all (fun a => !Nat.beq a.1 p) = true) : I p k = e_I e_t2 p k := H.2.2.1 p k (Or.inl (fun a ha e => by
  have := List.all_eq_true.mp hp a ha
  rw [e] at this
  simp at this))
theorem e_z (H : e_H e_t2 (n, K, L, I, J, G)) (p k : Nat) (hp : e_fr e_t2 p = true) : I p k = 0 := by
  have h := e_fr0 hp k
  exact (H.2.2.1 p k (Or.inl h.2.2)).trans h.1
theorem e_fI {p ln : Nat} {v : Int32} (H : e_H e_t2 (n, K, L, I, J, G)) (hk : (e_kd e_t2 p).map (fun r => r.2) = some ln) (h1 : e_t2.2.1.all (fun x => !Nat.beq x.1 p) = true) (h2 : ((e_t2.2.2.2.find? (fun a => Nat.beq a.1 p)).map (fun a => a.2)).getD 0 = v) {k : Nat} (hlt : k < ln) : I p k = v := by
  have hl : L p = ln := by
    cases e : e_kd e_t2 p with
    | none => rw [e] at hk; cases hk
    | some r =>
      rw [e] at hk
      simp only [Option.map_some, Option.some.injEq] at hk
      rw [← hk]
      exact (H.2.1 p r e).2
  refine (H.2.2.1 p k (Or.inr (show k < L p by rw [hl]; exact hlt))).trans ?_
  unfold e_I
  rw [e_find0 h1]
  simp only [Option.map_none, Option.getD_none]
  exact h2
theorem e_SS (H : e_H e_t2 (n, K, L, I, J, G)) : SS K L G := by
  refine ⟨fun t ht => ?_, fun t ht => ?_, fun t ht => ?_⟩
  · have := List.all_eq_true.mp e_sk t ht
    simp only [decide_eq_true_eq] at this
    cases e : e_kd e_t2 t.1 with
    | none => rw [e] at this; cases this
    | some r =>
      rw [e] at this
      simp only [Option.map_some, Option.some.injEq] at this
      rw [← this]
      exact (H.2.1 _ r e).1
  · have := List.all_eq_true.mp e_sl t ht
    simp only [decide_eq_true_eq] at this
    cases e : e_kd e_t2 t.1 with
    | none => rw [e] at this; cases this
    | some r =>
      rw [e] at this
      simp only [Option.map_some, Option.some.injEq] at this
      rw [← this]
      exact (H.2.1 _ r e).2
  · have := List.all_eq_true.mp e_sg2 t ht
    simp only [decide_eq_true_eq] at this
    exact (H.2.2.2.2 _ _).trans (e_gB_ok this)
theorem e_XDy (H : e_H e_t2 (n, K, L, I, J, G)) : XDy n K L G d_0 ∧ ∀ i, i < 10 → L (d_0 i) = 0 := by
  have hn : n = 103 := H.1.trans (by rw [e_len])
  have hL : ∀ i, i < 10 → L (d_0 i) = 0 := fun i hi => by
    obtain ⟨r, _, _, h3, _⟩ := e_dyn i hi
    exact (H.2.1 _ _ h3).2
  refine ⟨⟨fun i r hr => ?_, ?_, ?_, ?_, ?_, ?_⟩, hL⟩
  · have hi : i < 10 := (List.getElem?_eq_some_iff.mp hr).1
    obtain ⟨r', h1, h2, h3, h4, h5⟩ := e_dyn i hi
    rw [hr] at h1
    cases h1
    exact ⟨(H.2.2.2.2 _ _).trans (e_gB_ok h2), (H.2.1 _ _ h3).1, Or.inl (hL i hi), Or.inl h4, by omega⟩
  · intro i j hi hj
    have : ∀ i, i < 10 → ∀ j, j < 10 → d_0 i = d_0 j → i = j := by decide
    exact this i hi j hj
  · rw [hL 1 (by omega), hL 0 (by omega)]
  · rw [hL 3 (by omega), hL 2 (by omega)]
  · rw [hL 5 (by omega), hL 4 (by omega)]
  · rw [hL 7 (by omega), hL 6 (by omega)]
theorem e_m1 : ¬ (-1 : Int32) = nI 0 := by decide
def e_vals : List (Nat × Nat × Int32) := [(22, 5, (-1)), (22, 9, (-1)), (28, 5, (-1)), (28, 9, (-1)), (38, 0, (-1)), (43, 0, (-1)), (53, 6, (-1)), (71, 2, 0), (71, 1, 0), (71, 17, 0), (6, 3, 0), (10, 0, 0), (12, 3, 0), (10, 10, 0), (10, 1, 0), (71, 8, 0), (10, 2, 999), (71, 9, 999), (71, 11, 0), (5, 8, 0), (60, 2, 0), (71, 28, 0), (60, 3, (-1)), (71, 29, (-1)), (34, 0, 0), (71, 38, 0), (34, 7, 0), (53, 5, 0)]
theorem e_ck : e_vals.all (fun x => decide (e_I e_t2 x.1 x.2.1 = x.2.2) && e_t2.2.2.2.all (fun a => !Nat.beq a.1 x.1)) = true := by decide +kernel
theorem e_iv (H : e_H e_t2 (n, K, L, I, J, G)) {p k : Nat} {v : Int32} (hm : (p, k, v) ∈ e_vals) : I p k = v := by
  have := List.all_eq_true.mp e_ck _ hm
  simp only [Bool.and_eq_true, decide_eq_true_eq] at this
  exact (e_vl H p k this.2).trans this.1
theorem e_f11 : (e_kd e_t2 11).map (fun r => r.2) = some 192 ∧ e_t2.2.1.all (fun x => !Nat.beq x.1 11) = true ∧ ((e_t2.2.2.2.find? (fun a => Nat.beq a.1 11)).map (fun a => a.2)).getD 0 = -1 := by decide +kernel
theorem e_f54 : (e_kd e_t2 54).map (fun r => r.2) = some 12 ∧ e_t2.2.1.all (fun x => !Nat.beq x.1 54) = true ∧ ((e_t2.2.2.2.find? (fun a => Nat.beq a.1 54)).map (fun a => a.2)).getD 0 = 1 := by decide +kernel
theorem e_c1 : e_t2.2.2.2.all (fun a => !Nat.beq a.1 78) = true ∧ e_t2.2.2.2.all (fun a => !Nat.beq a.1 97) = true ∧ p_lB (e_I e_t2 78) 0 p_ws = true := by decide +kernel
theorem e_c2 : ∀ k, k < 12 → e_I e_t2 97 k = 1 := by decide +kernel
theorem e_c3 : e_gB e_t2 10 4 = some 12 ∧ e_gB e_t2 60 1 = some 65 := by decide +kernel
theorem e_c4 : e_fr e_t2 18 = true ∧ e_fr e_t2 59 = true ∧ e_fr e_t2 77 = true := by decide +kernel
theorem e_XI (H : e_H e_t2 (n, K, L, I, J, G)) : XI n K L I J G (mN I) 0 0 0 (fun _ _ => 0) 12 d_0 0 0 := by
  have hn : n = 103 := H.1.trans (by rw [e_len])
  have hL := (e_XDy H).2
  have i (p k : Nat) (v : Int32) (hm : (p, k, v) ∈ e_vals) : I p k = v := e_iv H hm
  have hW : (fun k => I 78 k) = e_I e_t2 78 := by funext k; exact e_vl H 78 k e_c1.1
  have a22 : I 22 5 = -1 := i 22 5 (-1) (by decide)
  have b22 : I 22 9 = -1 := i 22 9 (-1) (by decide)
  have a28 : I 28 5 = -1 := i 28 5 (-1) (by decide)
  have b28 : I 28 9 = -1 := i 28 9 (-1) (by decide)
  have a38 : I 38 0 = -1 := i 38 0 (-1) (by decide)
  have a43 : I 43 0 = -1 := i 43 0 (-1) (by decide)
  have a53 : I 53 6 = -1 := i 53 6 (-1) (by decide)
  refine ⟨⟨e_SS H, ⟨Or.inl rfl, (H.2.2.2.2 10 4).trans (e_gB_ok e_c3.1), (H.2.2.2.2 60 1).trans (e_gB_ok e_c3.2)⟩, by omega, (e_XDy H).1, Nat.le_refl _, by omega⟩, ⟨⟨i 71 2 0 (by decide), by omega, i 71 1 0 (by decide), by omega, i 71 17 0 (by decide), by omega, fun _ h => absurd h (by omega)⟩, ?_⟩, ⟨i 6 3 0 (by decide), fun _ h => absurd h (by omega), fun _ _ _ h => absurd h (by omega), fun _ h => absurd h (by omega)⟩, ?_, ?_, ?_, ?_, ?_, ?_, ?_, ?_, ?_⟩
  · show p_lay (fun k => I 78 k) 0 p_ws
    rw [hW]
    exact p_lB_ok e_c1.2.2
  · refine ⟨i 10 0 0 (by decide), ?_, ?_, ?_, ?_, ⟨i 12 3 0 (by decide), by omega, fun _ h => absurd h (by omega)⟩, fun _ h => absurd h (by omega), fun _ h => absurd h (by omega), fun f _ => e_z H 18 f e_c4.1, i 10 10 0 (by decide)⟩
    · show I 10 1 = I 71 8
      rw [i 10 1 0 (by decide), i 71 8 0 (by decide)]
    · show I 10 2 = I 71 9
      rw [i 10 2 999 (by decide), i 71 9 999 (by decide)]
    · exact Or.inl (i 71 8 0 (by decide))
    · intro k f m hk hf hm
      refine (e_fI (p := 11) (ln := 192) (v := -1) H e_f11.1 e_f11.2.1 e_f11.2.2 (by omega)).trans ?_
      rfl
  · refine ⟨?_, ⟨0, by omega, i 71 11 0 (by decide)⟩, ?_, fun k => ?_⟩
    · show I 5 8 = I 71 11
      rw [i 5 8 0 (by decide), i 71 11 0 (by decide)]
    · show I 59 = I 77
      funext k
      rw [e_z H 59 k e_c4.2.1, e_z H 77 k e_c4.2.2]
    · show 0 ≤ I 77 k ∧ I 77 k ≤ 255
      rw [e_z H 77 k e_c4.2.2]
      decide
  · refine ⟨?_, ?_⟩
    · show I 60 2 = I 71 28
      rw [i 60 2 0 (by decide), i 71 28 0 (by decide)]
    · show I 60 3 = I 71 29
      rw [i 60 3 (-1) (by decide), i 71 29 (-1) (by decide)]
  · exact ⟨Or.inl a22, Or.inl b22, fun h => absurd (a22.symm.trans h) e_m1, fun h => absurd (b22.symm.trans h) e_m1⟩
  · exact ⟨Or.inl a28, Or.inl b28, fun h => absurd (a28.symm.trans h) e_m1, fun h => absurd (b28.symm.trans h) e_m1⟩
  · exact Or.inl ⟨i 34 0 0 (by decide), i 71 38 0 (by decide), 0, i 34 7 0 (by decide), by omega⟩
  · exact ⟨0, H.2.2.2.1 38 10, Nat.le_refl _, Or.inl a38, fun q hq => absurd hq (by rw [hL 8 (by omega)]; omega), fun h => absurd (a38.symm.trans h) e_m1⟩
  · exact ⟨Or.inl a43, fun h => absurd (a43.symm.trans h) e_m1⟩
  · refine ⟨fun k hk => ?_, 0, i 53 5 0 (by decide), Nat.le_refl _, Or.inl a53, fun q hq => absurd hq (by rw [hL 9 (by omega)]; omega), fun h => absurd (a53.symm.trans h) e_m1⟩
    have e97 : I 97 k = 1 := by
      rw [e_vl H 97 k e_c1.2.1]
      exact e_c2 k hk
    have e54 : I 54 k = 1 := e_fI (p := 54) (ln := 12) (v := 1) H e_f54.1 e_f54.2.1 e_f54.2.2 hk
    refine ⟨e54.trans e97.symm, 1, by omega, by omega, e97⟩
theorem e_ux0 (H : e_H e_t2 (n, K, L, I, J, G)) : x_u L d_0 = 0 := by
  have hL := (e_XDy H).2
  unfold x_u
  rw [hL 0 (by omega), hL 2 (by omega), hL 4 (by omega), hL 6 (by omega), hL 8 (by omega), hL 9 (by omega)]
end START
