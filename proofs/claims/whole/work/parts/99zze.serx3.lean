/-! The seriation built under the invariant -/
noncomputable def x_g73 (L : Nat → Nat) (I : Nat → Nat → Int32) (D : Nat → Nat) (ch s : Nat) (mode marks : Int32) : Nat := @ite _ ((I 38 0 = nI ch ∧ I 38 1 = mode ∧ I 38 2 = nI s ∧ I 38 3 = marks) ∨ 2 ^ s_rk (zb (nI s)) 16 ≤ L (D 8)) (Classical.propDecidable _) 0 1
section SERX3
variable {l : Launch} {n : Nat} {K L : Nat → Nat} {I : Nat → Nat → Int32} {J : Nat → Nat → Int64} {G : Nat → Nat → Value} {M : Nat → Nat → Int32} {c F N : Nat} {tr : Nat → (Int32 → Int32) → Int32} {cd : Nat} {D : Nat → Nat} {ch rr : Nat}
def x_sp (n : Nat) (I : Nat → Nat → Int32) (J : Nat → Nat → Int64) (M : Nat → Nat → Int32) (c F N : Nat) (tr : Nat → (Int32 → Int32) → Int32) (cd ch rr u s : Nat) (mode marks : Int32) : zH → Prop := fun h' => ∃ n' K' L' I' J' G' D' fs bc R, h' = (n', K', L', I', J', G') ∧ XI n' K' L' I' J' G' M c F N tr cd D' ch rr ∧ u ≤ x_u L' D' ∧ (∀ q, 71 ≤ q → q ≤ 102 → I' q = I q ∧ J' q = J q) ∧ n ≤ n' ∧ R ≤ rr ∧ (I' 38 0 = nI ch ∧ I' 38 1 = mode ∧ I' 38 2 = nI s ∧ I' 38 3 = marks) ∧ x_pz I' (mR M c N tr mode) (nI s) marks fs bc ∧ XZ K' L' G' I' J' (D' 8) (L' (D' 8)) (s_rk (zb (nI s)) 16) bc R ∧ s_memo J' (D' 8) (L' (D' 8)) (s_rk (zb (nI s)) 16) R (xV I' (s_rk (zb (nI s)) 16) bc)
theorem c73x (hx : XI n K L I J G M c F N tr cd D ch rr) (hr : rr < 600) (hw : x_rwo I M c F N tr) {mode marks : Int32} {s : Nat} (hmd : mode = 0 ∨ mode = 1) (hs : s < 2 ^ F) : z_Ctr l 3 73 [.ref 38, .ref 10, .int mode, .int (nI s), .int marks] (n, K, L, I, J, G) (x_g73 L I D ch s mode marks) (2 ^ s_rk (zb (nI s)) 16 * x_g73 L I D ch s mode marks) (fun r h' => r = none ∧ x_sp n I J M c F N tr cd ch (rr + 1) (x_u L D + 2 ^ s_rk (zb (nI s)) 16 * x_g73 L I D ch s mode marks) s mode marks h') := by
  have hS : SS K L G := hx.S
  obtain ⟨f1, f2, f3, f4⟩ := hx.fn
  have hXD := hx.1.2.2.2.1
  have hn := hx.1.2.2.1
  have hrr := hx.1.2.2.2.2
  have hch : I 10 10 = nI ch := hx.2.2.2.1.2.2.2.2.2.2.2.2.2
  obtain ⟨g9, k14, w2, pl8, lt8⟩ := hXD.at (i := 8) rfl
  have pl8' : D 8 = 42 ∨ 103 ≤ D 8 := pl8
  have hc := s_rk_n (zb (nI s)) 16
  obtain ⟨R, y1, y2, y3, y4, y5⟩ := hx.2.2.2.2.2.2.2.2.2.1
  by_cases h : I 38 0 = I 10 10 ∧ I 38 1 = mode ∧ I 38 2 = nI s ∧ I 38 3 = marks
  · have h' : I 38 0 = nI ch ∧ I 38 1 = mode ∧ I 38 2 = nI s ∧ I 38 3 = marks := ⟨h.1.trans hch, h.2⟩
    rw [show x_g73 L I D ch s mode marks = 0 from if_pos (Or.inl h')]
    refine (c73o (l := l) (n := n) (J := J) hS h).mono (fun r h2 q => ?_)
    obtain ⟨rfl, rfl⟩ := q
    obtain ⟨fs, bc, p1, p2, p3⟩ := y5 h'.1
    rw [h'.2.1, h'.2.2.1, h'.2.2.2] at p1
    rw [h'.2.2.1] at p2 p3
    exact ⟨rfl, n, K, L, I, J, G, D, fs, bc, R, rfl, hx.up hr, Nat.le_refl _, fun _ _ _ => ⟨rfl, rfl⟩, Nat.le_refl _, by omega, h', p1, p1.XZ g9 k14 (w2.le (by decide)) p2 pl8' y1 (by omega), p3⟩
  have h' : ¬ (I 38 0 = nI ch ∧ I 38 1 = mode ∧ I 38 2 = nI s ∧ I 38 3 = marks) := fun q => h ⟨q.1.trans hch.symm, q.2⟩
  by_cases hle : 2 ^ s_rk (zb (nI s)) 16 ≤ L (D 8)
  · rw [show x_g73 L I D ch s mode marks = 0 from if_pos (Or.inr hle)]
    refine (c73a (l := l) (n := n) (J := J) hS h g9 k14 rfl (w2.lt (by decide)) y1 (by omega) hle).mono (fun r h2 q => ?_)
    obtain ⟨rfl, I', fs, bc, rfl, o, i0, i1, i2, i3, pz⟩ := q
    rw [hch] at i0
    have pz' := pz.row f2 hs (fun f hf => hw.row f4 hmd hf)
    have j10 : z_u J 38 10 (lN (R + 1)) 38 10 = lN (R + 1) := by rw [z_ua, if_pos rfl, if_pos rfl]
    have jo : ∀ q, q ≠ 38 → z_u J 38 10 (lN (R + 1)) q = J q := fun q hq => z_u_ne hq
    have mm : s_memo (z_u J 38 10 (lN (R + 1))) (D 8) (L (D 8)) (s_rk (zb (nI s)) 16) (R + 1) (xV I' (s_rk (zb (nI s)) 16) bc) := fun q hq => by
      obtain ⟨r, v, a, b, e⟩ := y4 q hq
      exact ⟨r, v, by omega, b, by rw [jo (D 8) (by omega)]; exact e, fun z => by omega⟩
    refine ⟨rfl, n, K, L, I', z_u J 38 10 (lN (R + 1)), G, D, fs, bc, R + 1, rfl, ?_, Nat.le_refl _, fun q x1 x2 => ⟨o q (by omega) (by omega) (by omega) (by omega), jo q (by omega)⟩, Nat.le_refl _, by omega, ⟨i0, i1, i2, i3⟩, pz', pz'.XZ g9 k14 (w2.le (by decide)) hle pl8' j10 (by omega), mm⟩
    exact (hx.up hr).se (J1 := J) (a := 0) (s := 0) (Nat.le_refl _) hS ⟨fun _ _ => ⟨rfl, rfl, rfl⟩, fun _ _ _ => rfl, fun _ _ _ => rfl⟩ hXD (fun _ _ _ => rfl) (fun q _ x1 x2 x3 x4 => o q x1 x2 x3 x4) ⟨R + 1, j10, by omega, Or.inr ⟨ch, Nat.le_refl _, i0⟩, fun q hq => by obtain ⟨r, v, a, b, e, -⟩ := mm q hq; exact ⟨r, v, a, b, e⟩, fun _ => ⟨fs, bc, by rw [i1, i2, i3]; exact pz', by rw [i2]; exact hle, by rw [i2]; exact mm⟩⟩
  · rw [show x_g73 L I D ch s mode marks = 1 from if_neg (fun q => q.elim h' hle), Nat.mul_one]
    refine (c73b (l := l) (n := n) (J := J) hS h g9 k14 rfl (w2.lt (by decide)) y1 (by omega) hle hn).mono (fun r h2 q => ?_)
    obtain ⟨rfl, K', L', I', J1, G', fs, bc, rfl, hz, g9', k14', l8', z0, -, o, i0, i1, i2, i3, pz⟩ := q
    rw [hch] at i0
    have pz' := pz.row f2 hs (fun f hf => hw.row f4 hmd hf)
    have hS' : SS K' L' G' := zGr.SS hz hn (Or.inr (Or.inl ⟨rfl, rfl, rfl⟩)) hS
    obtain ⟨D', eD⟩ : ∃ D' : Nat → Nat, ∀ i, D' i = if i = 8 then n else D i := ⟨_, fun _ => rfl⟩
    have e1 : D' 8 = n := by rw [eD, if_pos rfl]
    have eo : ∀ i, i ≠ 8 → D' i = D i := fun i x => by rw [eD, if_neg x]
    have hXD' : XDy (n + 1) K' L' G' D' := hXD.gr1 hn (i1 := 8) (e := s_rk (zb (nI s)) 16) hz (Or.inl ⟨rfl, rfl, rfl, rfl, rfl⟩) hc ⟨g9', k14', l8'⟩ e1 eo
    have eL : ∀ i, i < 10 → i ≠ 8 → L' (D' i) = L (D i) := fun i hi x => by rw [eo i x, (hz.1 _ (hXD.lt hi)).2.1]
    have l8 : L' (D' 8) = 2 ^ s_rk (zb (nI s)) 16 := by rw [e1, l8']
    have j10 : z_u J1 38 10 (lN (R + 1)) 38 10 = lN (R + 1) := by rw [z_ua, if_pos rfl, if_pos rfl]
    have jo : ∀ q, q ≠ 38 → z_u J1 38 10 (lN (R + 1)) q = J1 q := fun q hq => z_u_ne hq
    have l0 : (0 : Int64) = lN (0 * 2 ^ 45 + 0) := by decide
    have mm : s_memo (z_u J1 38 10 (lN (R + 1))) (D' 8) (L' (D' 8)) (s_rk (zb (nI s)) 16) (R + 1) (xV I' (s_rk (zb (nI s)) 16) bc) := fun q hq => ⟨0, 0, by omega, by decide, by rw [e1, jo n (by omega), z0 q]; exact l0, fun z => by omega⟩
    have hle' : 2 ^ s_rk (zb (nI s)) 16 ≤ L' (D' 8) := by rw [l8]; exact Nat.le_refl _
    refine ⟨rfl, n + 1, K', L', I', z_u J1 38 10 (lN (R + 1)), G', D', fs, bc, R + 1, rfl, ?_, ?_, fun q x1 x2 => ⟨o q (by omega) (by omega) (by omega) (by omega) (by omega), by rw [jo q (by omega)]; exact (hz.1 q (by omega)).2.2⟩, by omega, by omega, ⟨i0, i1, i2, i3⟩, pz', pz'.XZ (by rw [e1]; exact g9') (by rw [e1]; exact k14') (by rw [l8]; exact Nat.pow_le_pow_right (n := 2) (i := s_rk (zb (nI s)) 16) (j := 16) (by omega) hc) hle' (by omega) j10 (by omega), mm⟩
    · exact (hx.up hr).se (by omega) hS' hz hXD' (fun i _ h8 => eo i h8) (fun q x0 x1 x2 x3 x4 => o q x0 x1 x2 x3 x4) ⟨R + 1, j10, by omega, Or.inr ⟨ch, Nat.le_refl _, i0⟩, fun q hq => by obtain ⟨r, v, a, b, e, -⟩ := mm q hq; exact ⟨r, v, a, b, e⟩, fun _ => ⟨fs, bc, by rw [i1, i2, i3]; exact pz', by rw [i2]; exact hle', by rw [i2]; exact mm⟩⟩
    · have := w2.half hle
      unfold x_u
      rw [eL 0 (by omega) (by omega), eL 2 (by omega) (by omega), eL 4 (by omega) (by omega), eL 6 (by omega) (by omega), eL 9 (by omega) (by omega), l8]
      omega
end SERX3
