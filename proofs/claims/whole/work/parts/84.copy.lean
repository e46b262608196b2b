/-! A row copied: System.arraycopy, and keepOrder's blocks -/
def B5_0 : List zOp := [(0, 1, .aload_n 0, [], 0), (1, 1, .iload_n 1, [], 0), (2, 3, .invokevirtual 97, [7, 1, 0], 0), (5, 1, .istore_n 2, [], 0), (6, 1, .iload_n 2, [], 0), (7, 1, .aload_n 0, [], 0), (8, 3, .getfield 58, [0, 15, 0], 0), (11, 3, .if_icmp .ge 25, [36], 0), (14, 1, .aload_n 0, [], 0), (15, 1, .iload_n 2, [], 0), (16, 3, .putfield 58, [0, 15, 0], 0), (19, 1, .aload_n 0, [], 0), (20, 3, .getfield 52, [0, 13, 2], 0), (23, 1, .iconst 0, [], 0), (24, 1, .aload_n 0, [], 0), (25, 3, .getfield 55, [0, 14, 2], 0), (28, 1, .iconst 0, [], 0), (29, 1, .aload_n 0, [], 0), (30, 3, .getfield 24, [0, 4, 0], 0)]
set_option maxRecDepth 20000 in
theorem b5_0 : z_blk 5 0 33 B5_0 = true := by decide +kernel
def B5_36 : List zOp := [(36, 1, .return_, [], 0)]
set_option maxRecDepth 20000 in
theorem b5_36 : z_blk 5 36 37 B5_36 = true := by decide +kernel
set_option maxRecDepth 20000 in
theorem z_cpw : ∀ w ∈ ([.methodLink (z_own (z_O 5)) 100 arraycopyName, .static arraycopyName, .native arraycopyName, .initialized "java/lang/System"] : List Cond), w ∈ TW := z_at (is := [1140, 1141, 1142, 113]) (by decide +kernel)
set_option maxRecDepth 20000 in
theorem z_cpd : decode (z_C 5) 33 = .ok (.invokestatic 100, 3) := by decide +kernel
theorem z_nfw : nativeFrameWords "java/lang/System" "arraycopy" 5 ≤ 60 := by decide
theorem z_copy {X : zX} (hj : X.2.1 = 5) {a a0 : Nat} {k : Int32} {ls : List (Option Value)} {h : zH} {uc us : Nat} (h1 : 1 ≤ X.2.2.1) (hk : h.2.1 a = 13) (hk0 : h.2.1 a0 = 13) (h0 : ¬ k < 0) (hl0 : k.toNatClampNeg ≤ h.2.2.1 a0) (hl : k.toNatClampNeg ≤ h.2.2.1 a) (kk : zV X 36 ls [] (z_hI h (z_w h.2.2.2.1 a (va_cpy (h.2.2.2.1 a0) (h.2.2.2.1 a) 0 0 k.toNatClampNeg))) uc us) : zV X 33 ls [.int k, .int 0, .ref a, .int 0, .ref a0] h uc us := by
  unfold zV at kk ⊢
  rw [hj] at kk ⊢
  intro p e R s m args below meth c D cy A ρ0 n0 Z hC ρ H locs arr hS hL
  have ha : a < h.1 := z_sc_head (z_sc_tail (z_sc_tail hS.2.2.2.2.2.2.1))
  have ha0 : a0 < h.1 := z_sc_head (z_sc_tail (z_sc_tail (z_sc_tail (z_sc_tail hS.2.2.2.2.2.2.1))))
  have h5 := z_ge5 hS.2.2.2.2.1 hk (by decide)
  have h50 := z_ge5 hS.2.2.2.2.1 hk0 (by decide)
  have hget := z_ws_get (ρ := ρ) (cy := cy) h5 ha
  have hget0 := z_ws_get (ρ := ρ) (cy := cy) h50 ha0
  rw [z_conc_int hk (by decide)] at hget
  rw [z_conc_int hk0 (by decide)] at hget0
  have hset := z_ws_set (ρ := ρ) (cy := cy) (h := h) (h' := z_hI h (z_w h.2.2.2.1 a (va_cpy (h.2.2.2.1 a0) (h.2.2.2.1 a) 0 0 k.toNatClampNeg))) (p := a) rfl h5 (fun q hq => z_conc_congr rfl rfl (z_w_ne hq) rfl rfl (fun _ => rfl))
  rw [z_conc_int (h := z_hI h (z_w h.2.2.2.1 a (va_cpy (h.2.2.2.1 a0) (h.2.2.2.1 a) 0 0 k.toNatClampNeg))) hk (by decide)] at hset
  have hR := hC.2.2.2.2.2.2.2.2.2.1
  have hnf := z_nfw
  have e0 : (0 : Int32).toNatClampNeg = 0 := by decide
  refine va_copyi (sp := 0) (dp := 0) (rest := []) (ty := .int) hC.1 hC.2.1 (hC.2.2.1.trans hL.1.symm) hC.2.2.2.1 (hC.2.2.2.2.1 _ (z_cpw _ (by simp))) (hC.2.2.2.2.1 _ (z_cpw _ (by simp))) (hC.2.2.2.2.1 _ (z_cpw _ (by simp))) (hC.2.2.2.2.1 _ (z_cpw _ (by simp))) hC.2.2.2.2.2.2.2.1 hS.2.2.1 hS.2.2.2.1 hS.2.2.2.2.2.1 (a0 - 5) (a - 5) 1 1 hget0 hget rfl rfl rfl (by decide) (by decide) h0 (by rw [e0]; omega) (by rw [e0]; omega) (fun _ _ => rfl) (by omega) (by simp; omega) z_cpd (fun H1 locs1 hP1 hD1 hS1 => ?_)
  rw [e0] at hP1 hD1
  have hset' : (z_ws ρ cy h).set (a - 5) (ρ a, .inl (cy 13, h.2.2.1 a, .inl (va_cpy (h.2.2.2.1 a0) (h.2.2.2.1 a) 0 0 k.toNatClampNeg))) = z_ws ρ cy (z_hI h (z_w h.2.2.2.1 a (va_cpy (h.2.2.2.1 a0) (h.2.2.2.1 a) 0 0 k.toNatClampNeg))) := by
    rw [← hset]
    show _ = (z_ws ρ cy h).set (a - 5) (ρ a, .inl (cy 13, h.2.2.1 a, .inl (z_w h.2.2.2.1 a _ a)))
    rw [z_w_at]
  rw [hset'] at hP1 hD1
  exact kk p e R s m args below meth c D cy A ρ0 n0 Z hC ρ H1 locs1 arr ⟨hS.1, hS.2.1, hP1, hD1, hS.2.2.2.2.1, hS1, z_sc_tail (z_sc_tail (z_sc_tail (z_sc_tail (z_sc_tail hS.2.2.2.2.2.2.1)))), hS.2.2.2.2.2.2.2⟩ hL
