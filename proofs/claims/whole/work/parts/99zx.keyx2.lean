/-! The key tree built under the invariant; key -/
theorem k_memo.old {I : Nat → Nat → Int32} {pp PL N R : Nat} {ys mb co : Nat → Int32} (h : k_memo I pp PL N R ys mb co) (hco : ∀ i, i < N → ∃ c, 1 ≤ c ∧ c ≤ 9 ∧ co i = nI c) (hN : N ≤ 12) (hR : R < 2 ^ 18) (hPL : PL ≤ 65536) : ∀ t, t < PL → ∃ r, r ≤ R ∧ k_rd (I pp t) = nI r := fun t ht => by
  rcases h t ht with ⟨r, hr, e⟩ | e
  · exact ⟨r, by omega, e⟩
  · obtain ⟨w, c, hw, hc, -, -, e2⟩ := k_cd_ok (ys := ys) (mb := mb) hco hN hR (s := t) (by omega)
    exact ⟨R, Nat.le_refl _, by rw [e, e2]; exact k_pk_r hR hw hc⟩
def x_g21 (L : Nat → Nat) (I : Nat → Nat → Int32) (D : Nat → Nat) (F ch : Nat) : Nat := if I 53 6 = nI ch ∨ 2 ^ F ≤ L (D 9) then 0 else 1
section KEYX2
variable {l : Launch} {n : Nat} {K L : Nat → Nat} {I : Nat → Nat → Int32} {J : Nat → Nat → Int64} {G : Nat → Nat → Value} {M : Nat → Nat → Int32} {c F N : Nat} {tr : Nat → (Int32 → Int32) → Int32} {cd : Nat} {D : Nat → Nat} {ch rr : Nat}
theorem p_w2.le {b s : Nat} (h : p_w2 b s) (hb : b ≤ 16) : s ≤ 65536 := by
  rcases h with rfl | ⟨e, he, rfl⟩
  · omega
  · exact Nat.pow_le_pow_right (n := 2) (i := e) (j := 16) (by omega) (by omega)
theorem c21x (hx : XI n K L I J G M c F N tr cd D ch rr) (hr : rr < 600) (hw : x_rwo I M c F N tr) : z_Ctr l 1 21 [.ref 53, .ref 10] (n, K, L, I, J, G) (x_g21 L I D F ch) (2 ^ F * x_g21 L I D F ch) (fun r h' => r = none ∧ x_gp n I J M c F N tr cd ch (rr + 1) (x_u L D + 2 ^ F * x_g21 L I D F ch) (fun I' _ _ => I' 53 6 = nI ch) h') := by
  have hS : SS K L G := hx.S
  obtain ⟨f1, f2, f3, f4⟩ := hx.fn
  have hXD := hx.1.2.2.2.1
  have hn := hx.1.2.2.1
  have hrr := hx.1.2.2.2.2
  have hch : I 10 10 = nI ch := hx.2.2.2.1.2.2.2.2.2.2.2.2.2
  obtain ⟨g4, k13, w2, pl9, lt9⟩ := hXD.at (i := 9) rfl
  have pl9' : D 9 = 57 ∨ 103 ≤ D 9 := pl9
  obtain ⟨y0, R, y1, y2, y3, y4, y5⟩ := hx.2.2.2.2.2.2.2.2.2.2.2
  have s1 : ∀ i, i < N → x_spl (I 16) i F = mYs M c F tr 1 i := fun i hi => x_spl_m (T := fun i f => mTv M c tr i f) (by omega) hi (fun f hf => (hw f hf).1)
  have s2 : ∀ i, i < N → x_spl (I 17) i F = mYs M c F tr 2 i := fun i hi => x_spl_m (T := fun i f => mTv M c tr i f) (by omega) hi (fun f hf => (hw f hf).2)
  by_cases h6 : I 53 6 = I 10 10
  · rw [show x_g21 L I D F ch = 0 from if_pos (Or.inl (h6.trans hch))]
    refine (c21o (l := l) (n := n) (J := J) hS h6).mono (fun r h' q => ?_)
    obtain ⟨rfl, rfl⟩ := q
    exact ⟨rfl, n, K, L, I, J, G, D, rfl, hx.up hr, Nat.le_refl _, fun _ _ _ => ⟨rfl, rfl⟩, Nat.le_refl _, h6.trans hch⟩
  have h6' : ¬ I 53 6 = nI ch := by rw [← hch]; exact h6
  by_cases hle : 2 ^ F ≤ L (D 9)
  · rw [show x_g21 L I D F ch = 0 from if_pos (Or.inr hle)]
    refine (c21a (l := l) (n := n) (J := J) hS hx.C g4 k13 rfl (w2.lt (by decide)) f3 f4 f1 f2 h6 y1 (by omega) hle).mono (fun r h' q => ?_)
    obtain ⟨rfl, I', rfl, o1, o2, i3, i6, i5, isp⟩ := q
    rw [hch] at i6
    have e9 : I' (D 9) = I (D 9) := o1 _ (by omega) (by omega) (by omega)
    refine ⟨rfl, n, K, L, I', J, G, D, rfl, ?_, Nat.le_refl _, fun q x1 x2 => ⟨o1 q (by omega) (by omega) (by omega), rfl⟩, Nat.le_refl _, i6⟩
    refine (hx.up hr).ky (a := 0) (s := 0) (Nat.le_refl _) hS ⟨fun _ _ => ⟨rfl, rfl, rfl⟩, fun _ _ _ => rfl, fun _ _ _ => rfl⟩ hXD (fun _ _ => rfl) (fun q _ x1 x2 x3 _ _ => o1 q x1 x2 x3) ⟨fun i hi => by rw [o1 54 (by omega) (by omega) (by omega)]; exact y0 i hi, R + 1, i5, by omega, Or.inr ⟨ch, Nat.le_refl _, i6⟩, fun t ht => ?_, fun _ => ⟨i3, hle, fun i hi => ?_, fun t ht => ?_⟩⟩
    · obtain ⟨r, hr', e⟩ := y4 t ht
      exact ⟨r, by omega, by rw [e9]; exact e⟩
    · rw [(isp i hi).1, (isp i hi).2, s1 i hi, s2 i hi]
      exact ⟨rfl, rfl⟩
    · obtain ⟨r, hr', e⟩ := y4 t ht
      exact Or.inl ⟨r, by omega, by rw [e9]; exact e⟩
  · rw [show x_g21 L I D F ch = 1 from if_neg (fun q => q.elim h6' hle), Nat.mul_one]
    refine (c21b (l := l) (n := n) (J := J) hS hx.C g4 k13 rfl (w2.lt (by decide)) f3 f4 f1 f2 h6 y1 (by omega) hle hn).mono (fun r h' q => ?_)
    obtain ⟨rfl, K', L', I', J', G', rfl, hz, g4', k13', l4', z0, o1, o2, i3, i6, i5, isp⟩ := q
    rw [hch] at i6
    have hS' : SS K' L' G' := zGr.SS hz hn (Or.inr (Or.inr ⟨rfl, rfl, rfl⟩)) hS
    obtain ⟨D', eD⟩ : ∃ D' : Nat → Nat, ∀ i, D' i = if i = 9 then n else D i := ⟨_, fun _ => rfl⟩
    have e1 : D' 9 = n := by rw [eD, if_pos rfl]
    have eo : ∀ i, i ≠ 9 → D' i = D i := fun i x => by rw [eD, if_neg x]
    have hXD' : XDy (n + 1) K' L' G' D' := hXD.gr1 hn (i1 := 9) (e := F) hz (Or.inr ⟨rfl, rfl, rfl, rfl, rfl⟩) (by omega) ⟨g4', k13', l4'⟩ e1 eo
    have eL : ∀ i, i < 9 → L' (D' i) = L (D i) := fun i hi => by rw [eo i (by omega), (hz.1 _ (hXD.lt (by omega))).2.1]
    have rd0 : k_rd 0 = nI 0 := by decide
    refine ⟨rfl, n + 1, K', L', I', J', G', D', rfl, ?_, ?_, fun q x1 x2 => ⟨o1 q (by omega) (by omega) (by omega) (by omega), (hz.1 q (by omega)).2.2⟩, by omega, i6⟩
    · refine (hx.up hr).ky (by omega) hS' hz hXD' (fun i hi => eo i (by omega)) (fun q x0 x1 x2 x3 _ _ => o1 q x0 x1 x2 x3) ⟨fun i hi => by rw [o1 54 (by omega) (by omega) (by omega) (by omega)]; exact y0 i hi, R + 1, i5, by omega, Or.inr ⟨ch, Nat.le_refl _, i6⟩, fun t ht => ⟨0, by omega, by rw [e1, z0 t]; exact rd0⟩, fun _ => ⟨i3, by rw [e1, l4']; exact Nat.le_refl _, fun i hi => ?_, fun t ht => Or.inl ⟨0, by omega, by rw [e1, z0 t]; exact rd0⟩⟩⟩
      rw [(isp i hi).1, (isp i hi).2, s1 i hi, s2 i hi]
      exact ⟨rfl, rfl⟩
    · have := w2.half hle
      have l9 : L' (D' 9) = 2 ^ F := by rw [e1, l4']
      unfold x_u
      rw [eL 0 (by omega), eL 2 (by omega), eL 4 (by omega), eL 6 (by omega), eL 8 (by omega), l9]
      omega
/-- what the tree holds -/
theorem XI.xk (hx : XI n K L I J G M c F N tr cd D ch rr) (h6 : I 53 6 = nI ch) : ∃ R, R ≤ rr ∧ XK K L G I (D 9) (L (D 9)) F N R (mYs M c F tr 1) (mYs M c F tr 2) (M 97) ∧ k_memo I (D 9) (L (D 9)) N R (mYs M c F tr 1) (mYs M c F tr 2) (M 97) := by
  obtain ⟨f1, f2, f3, f4⟩ := hx.fn
  obtain ⟨g4, k13, w2, pl9, lt9⟩ := hx.1.2.2.2.1.at (i := 9) rfl
  obtain ⟨y0, R, y1, y2, y3, y4, y5⟩ := hx.2.2.2.2.2.2.2.2.2.2.2
  obtain ⟨z1, z2, z3, z4⟩ := y5 h6
  have hrr := hx.1.2.2.2.2
  exact ⟨R, y2, ⟨g4, k13, rfl, w2.le (by decide), z2, pl9, z1, f4, f2, y1, by omega, fun i hi => ⟨(z3 i hi).1, (z3 i hi).2, (y0 i (by omega)).1, (y0 i (by omega)).2⟩⟩, z4⟩
/-- the memo has grown -/
theorem XI.km {I' : Nat → Nat → Int32} (hx : XI n K L I J G M c F N tr cd D ch rr) (h6 : I 53 6 = nI ch) {R : Nat} (hR : R ≤ rr) (hX : XK K L G I (D 9) (L (D 9)) F N R (mYs M c F tr 1) (mYs M c F tr 2) (M 97)) (o1 : ∀ q, q ≠ D 9 → q ≠ 53 → q ≠ 58 → I' q = I q) (o2 : ∀ k, k ≠ 8 → k ≠ 9 → k ≠ 10 → I' 53 k = I 53 k) (hm : k_memo I' (D 9) (L (D 9)) N R (mYs M c F tr 1) (mYs M c F tr 2) (M 97)) : XI n K L I' J G M c F N tr cd D ch rr := by
  obtain ⟨f1, f2, f3, f4⟩ := hx.fn
  obtain ⟨g4, k13, w2, pl9, lt9⟩ := hx.1.2.2.2.1.at (i := 9) rfl
  have pl9' : D 9 = 57 ∨ 103 ≤ D 9 := pl9
  obtain ⟨a1, a2, a3, a4, a5, a6, a7, a8, a9, a10, a11, a12⟩ := hX
  obtain ⟨y0, -, -, -, -, -, -⟩ := hx.2.2.2.2.2.2.2.2.2.2.2
  refine hx.ky (a := 0) (s := 0) (Nat.le_refl _) hx.S ⟨fun _ _ => ⟨rfl, rfl, rfl⟩, fun _ _ _ => rfl, fun _ _ _ => rfl⟩ hx.1.2.2.2.1 (fun _ _ => rfl) (fun q _ x1 x2 x3 x4 x5 => o1 q x5 x1 x4) ⟨fun i hi => by rw [o1 54 (by omega) (by omega) (by omega)]; exact y0 i hi, R, by rw [o2 5 (by decide) (by decide) (by decide)]; exact a10, hR, Or.inr ⟨ch, Nat.le_refl _, by rw [o2 6 (by decide) (by decide) (by decide)]; exact h6⟩, hm.old (fun i hi => (a12 i hi).2.2.2) f4 a11 a4, fun _ => ⟨by rw [o2 3 (by decide) (by decide) (by decide)]; exact a7, a5, fun i hi => ?_, hm⟩⟩
  rw [o1 55 (by omega) (by omega) (by omega), o1 56 (by omega) (by omega) (by omega)]
  exact ⟨(a12 i hi).1, (a12 i hi).2.1⟩
end KEYX2
