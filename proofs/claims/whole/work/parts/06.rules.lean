/-! THE ROWS OF THE PURE MACHINE -/
def z_lvl (ρ : Nat → Nat) (ls : List (Option Value)) : List (Nat × Value) := (List.range ls.length).filterMap (fun i => ((ls[i]?).join).map (fun v => (i, z_cv ρ v)))
theorem z_lvl_mem {ρ : Nat → Nat} {ls : List (Option Value)} {i : Nat} {v : Value} (h : ls[i]? = some (some v)) : (i, z_cv ρ v) ∈ z_lvl ρ ls := by
  refine List.mem_filterMap.mpr ⟨i, List.mem_range.mpr (List.getElem?_eq_some_iff.mp h).1, ?_⟩
  rw [h]; rfl
theorem z_lvl_of {ρ : Nat → Nat} {ls : List (Option Value)} {q : Nat × Value} (h : q ∈ z_lvl ρ ls) : ∃ v, ls[q.1]? = some (some v) ∧ q.2 = z_cv ρ v := by
  obtain ⟨i, -, hi⟩ := List.mem_filterMap.mp h
  cases hl : ls[i]? with
  | none => rw [hl] at hi; cases hi
  | some w =>
    cases w with
    | none => rw [hl] at hi; cases hi
    | some v => rw [hl] at hi; cases hi; exact ⟨v, hl, rfl⟩
theorem z_LH.has {arr : Array Slot} {nL : Nat} {ρ : Nat → Nat} {n : Nat} {ls : List (Option Value)} (h : z_LH arr nL ρ n ls) : lv_has arr nL (z_lvl ρ ls) := by
  refine ⟨h.1, h.2.1, fun q hq => ?_⟩
  obtain ⟨v, h1, h2⟩ := z_lvl_of hq
  rw [h2]
  exact (h.2.2.2 _ v h1).1
theorem z_kil_len (ls : List (Option Value)) (i : Nat) : (z_kil ls i).length = ls.length := by
  unfold z_kil
  split
  · rfl
  · split <;> simp
theorem z_kil_get {ls : List (Option Value)} {i k : Nat} {w : Value} (h : (z_kil ls i)[k]? = some (some w)) : ls[k]? = some (some w) ∧ ¬ (k + 1 = i ∧ w.category = 2) := by
  unfold z_kil at h
  split at h
  · exact ⟨h, fun z => by omega⟩
  · rename_i a
    have key : ∀ y : Option Value, ls[a]? = some y → (ls.set a none)[k]? = some (some w) → ls[k]? = some (some w) ∧ ¬ (k + 1 = a + 1 ∧ w.category = 2) := by
      intro y hy hh
      by_cases hka : k = a
      · subst hka
        rw [List.getElem?_set_self (List.getElem?_eq_some_iff.mp hy).1] at hh
        cases hh
      · rw [List.getElem?_set_ne (fun z => hka z.symm)] at hh
        exact ⟨hh, fun z => hka (by omega)⟩
    split at h
    · rename_i x hx
      exact key _ hx h
    · rename_i x hx
      exact key _ hx h
    · rename_i n1 n2
      refine ⟨h, fun z => ?_⟩
      have e : k = a := by omega
      subst e
      cases w with
      | long x => exact n1 x h
      | double x => exact n2 x h
      | _ => exact absurd z.2 (by simp [Value.category])
theorem z_LH_store {arr arr' : Array Slot} {nL : Nat} {ρ : Nat → Nat} {n : Nat} {ls : List (Option Value)} (h : z_LH arr nL ρ n ls) {i : Nat} {v : Value} (hi : i < nL) (hv : z_sc n v) (h' : lv_has arr' nL ((i, z_cv ρ v) :: (z_lvl ρ ls).filter (fun q => !(q.1 == i) && !(q.1 + 1 == i && q.2.category == 2)))) : z_LH arr' nL ρ n (z_set ls i v) := by
  refine ⟨h'.1, h'.2.1, by simp [z_set, z_kil_len, h.2.2.1], fun k w hk => ?_⟩
  by_cases hki : k = i
  · subst hki
    have hlt : k < (z_kil ls k).length := by rw [z_kil_len, h.2.2.1]; exact hi
    unfold z_set at hk
    rw [List.getElem?_set_self hlt] at hk
    cases hk
    exact ⟨h'.2.2 _ List.mem_cons_self, hv⟩
  · unfold z_set at hk
    rw [List.getElem?_set_ne (fun z => hki z.symm)] at hk
    obtain ⟨h1, h2⟩ := z_kil_get hk
    refine ⟨h'.2.2 (k, z_cv ρ w) (List.mem_cons_of_mem _ (List.mem_filter.mpr ⟨z_lvl_mem h1, ?_⟩)), (h.2.2.2 k w h1).2⟩
    simp only [Bool.and_eq_true, Bool.not_eq_true', beq_eq_false_iff_ne, ne_eq, Bool.and_eq_false_iff, z_cv_cat]
    refine ⟨hki, ?_⟩
    by_cases hk1 : k + 1 = i
    · exact Or.inr (fun z => h2 ⟨hk1, z⟩)
    · exact Or.inl hk1
theorem z_LH_store2 {arr arr' : Array Slot} {nL : Nat} {ρ : Nat → Nat} {n : Nat} {ls : List (Option Value)} (h : z_LH arr nL ρ n ls) {i : Nat} {v : Value} (hi : i + 1 < nL) (hv : z_sc n v) (h' : lv_has arr' nL ((i, z_cv ρ v) :: (z_lvl ρ ls).filter (fun q => !(q.1 == i) && (!(q.1 == i + 1) && !(q.1 + 1 == i && q.2.category == 2))))) : z_LH arr' nL ρ n (z_set2 ls i v) := by
  refine ⟨h'.1, h'.2.1, by simp [z_set2, z_kil_len, h.2.2.1], fun k w hk => ?_⟩
  unfold z_set2 at hk
  by_cases hk2 : k = i + 1
  · subst hk2
    rw [List.getElem?_set_self (by rw [List.length_set, z_kil_len, h.2.2.1]; exact hi)] at hk
    cases hk
  · rw [List.getElem?_set_ne (fun z => hk2 z.symm)] at hk
    by_cases hki : k = i
    · subst hki
      rw [List.getElem?_set_self (by rw [z_kil_len, h.2.2.1]; omega)] at hk
      cases hk
      exact ⟨h'.2.2 _ List.mem_cons_self, hv⟩
    · rw [List.getElem?_set_ne (fun z => hki z.symm)] at hk
      obtain ⟨h1, h2⟩ := z_kil_get hk
      refine ⟨h'.2.2 (k, z_cv ρ w) (List.mem_cons_of_mem _ (List.mem_filter.mpr ⟨z_lvl_mem h1, ?_⟩)), (h.2.2.2 k w h1).2⟩
      simp only [Bool.and_eq_true, Bool.not_eq_true', beq_eq_false_iff_ne, ne_eq, Bool.and_eq_false_iff, z_cv_cat]
      refine ⟨hki, hk2, ?_⟩
      by_cases hk1 : k + 1 = i
      · exact Or.inr (fun z => h2 ⟨hk1, z⟩)
      · exact Or.inl hk1
section ZR
variable {l : Launch} {j d mc ms : Nat} {SC : Option (Nat × (Nat → Int32))} {Qf : Option Value → zH → Prop} {pc : Nat} {ls : List (Option Value)} {st : List Value} {h : zH} {uc us : Nat}
theorem z_s_iconst {n : Int} (hd : decode (z_C j) pc = .ok (.iconst n, 1)) (k : z_V l j d mc ms SC Qf (pc + 1) ls (.int (Int32.ofInt n) :: st) h uc us) : z_V l j d mc ms SC Qf pc ls (st) h uc us := by
  intro p e R s m args below meth c D cy A ρ0 n0 Z hC ρ H locs arr hS hL
  exact lv_iconst hC.1 hC.2.1 hd rfl (k p e R s m args below meth c D cy A ρ0 n0 Z hC ρ H locs arr (hS.st (z_sc_cons trivial hS.2.2.2.2.2.2.1)) hL)
theorem z_s_bipush {n : Int} (hv : (Int8.ofInt n).toInt32 = Int32.ofInt n) (hd : decode (z_C j) pc = .ok (.bipush n, 2)) (k : z_V l j d mc ms SC Qf (pc + 2) ls (.int (Int32.ofInt n) :: st) h uc us) : z_V l j d mc ms SC Qf pc ls (st) h uc us := by
  intro p e R s m args below meth c D cy A ρ0 n0 Z hC ρ H locs arr hS hL
  exact lv_bipush hC.1 hC.2.1 hd hv (k p e R s m args below meth c D cy A ρ0 n0 Z hC ρ H locs arr (hS.st (z_sc_cons trivial hS.2.2.2.2.2.2.1)) hL)
theorem z_s_sipush {n : Int} (hv : (Int16.ofInt n).toInt32 = Int32.ofInt n) (hd : decode (z_C j) pc = .ok (.sipush n, 3)) (k : z_V l j d mc ms SC Qf (pc + 3) ls (.int (Int32.ofInt n) :: st) h uc us) : z_V l j d mc ms SC Qf pc ls (st) h uc us := by
  intro p e R s m args below meth c D cy A ρ0 n0 Z hC ρ H locs arr hS hL
  exact lv_sipush hC.1 hC.2.1 hd hv (k p e R s m args below meth c D cy A ρ0 n0 Z hC ρ H locs arr (hS.st (z_sc_cons trivial hS.2.2.2.2.2.2.1)) hL)
theorem z_s_lconst {n : Fin 2} (hd : decode (z_C j) pc = .ok (.lconst n, 1)) (k : z_V l j d mc ms SC Qf (pc + 1) ls (.long (Int64.ofNat (n : Nat)) :: st) h uc us) : z_V l j d mc ms SC Qf pc ls (st) h uc us := by
  intro p e R s m args below meth c D cy A ρ0 n0 Z hC ρ H locs arr hS hL
  exact lv_lconst hC.1 hC.2.1 hd rfl (k p e R s m args below meth c D cy A ρ0 n0 Z hC ρ H locs arr (hS.st (z_sc_cons trivial hS.2.2.2.2.2.2.1)) hL)
theorem z_s_iload {i : Nat} {x : Int32} (hl : ls[i]? = some (some (.int x))) (hd : decode (z_C j) pc = .ok (.iload i, 2)) (k : z_V l j d mc ms SC Qf (pc + 2) ls (.int x :: st) h uc us) : z_V l j d mc ms SC Qf pc ls (st) h uc us := by
  intro p e R s m args below meth c D cy A ρ0 n0 Z hC ρ H locs arr hS hL
  exact lv_iload hC.1 hC.2.1 hd (hL.2.2.2 _ _ hl).1 (k p e R s m args below meth c D cy A ρ0 n0 Z hC ρ H locs arr (hS.st (z_sc_cons trivial hS.2.2.2.2.2.2.1)) hL)
theorem z_s_iload_n {i : Fin 4} {x : Int32} (hl : ls[(i : Nat)]? = some (some (.int x))) (hd : decode (z_C j) pc = .ok (.iload_n i, 1)) (k : z_V l j d mc ms SC Qf (pc + 1) ls (.int x :: st) h uc us) : z_V l j d mc ms SC Qf pc ls (st) h uc us := by
  intro p e R s m args below meth c D cy A ρ0 n0 Z hC ρ H locs arr hS hL
  exact lv_iload_n hC.1 hC.2.1 hd rfl (hL.2.2.2 _ _ hl).1 (k p e R s m args below meth c D cy A ρ0 n0 Z hC ρ H locs arr (hS.st (z_sc_cons trivial hS.2.2.2.2.2.2.1)) hL)
theorem z_s_lload {i : Nat} {x : Int64} (hl : ls[i]? = some (some (.long x))) (hd : decode (z_C j) pc = .ok (.lload i, 2)) (k : z_V l j d mc ms SC Qf (pc + 2) ls (.long x :: st) h uc us) : z_V l j d mc ms SC Qf pc ls (st) h uc us := by
  intro p e R s m args below meth c D cy A ρ0 n0 Z hC ρ H locs arr hS hL
  exact lv_lload hC.1 hC.2.1 hd (hL.2.2.2 _ _ hl).1 (k p e R s m args below meth c D cy A ρ0 n0 Z hC ρ H locs arr (hS.st (z_sc_cons trivial hS.2.2.2.2.2.2.1)) hL)
theorem z_s_lload_n {i : Fin 4} {x : Int64} (hl : ls[(i : Nat)]? = some (some (.long x))) (hd : decode (z_C j) pc = .ok (.lload_n i, 1)) (k : z_V l j d mc ms SC Qf (pc + 1) ls (.long x :: st) h uc us) : z_V l j d mc ms SC Qf pc ls (st) h uc us := by
  intro p e R s m args below meth c D cy A ρ0 n0 Z hC ρ H locs arr hS hL
  exact lv_lload_n hC.1 hC.2.1 hd rfl (hL.2.2.2 _ _ hl).1 (k p e R s m args below meth c D cy A ρ0 n0 Z hC ρ H locs arr (hS.st (z_sc_cons trivial hS.2.2.2.2.2.2.1)) hL)
theorem z_s_aload {i : Nat} {x : Nat} (hl : ls[i]? = some (some (.ref x))) (hd : decode (z_C j) pc = .ok (.aload i, 2)) (k : z_V l j d mc ms SC Qf (pc + 2) ls (.ref x :: st) h uc us) : z_V l j d mc ms SC Qf pc ls (st) h uc us := by
  intro p e R s m args below meth c D cy A ρ0 n0 Z hC ρ H locs arr hS hL
  exact lv_aload hC.1 hC.2.1 hd (hL.2.2.2 _ _ hl).1 (k p e R s m args below meth c D cy A ρ0 n0 Z hC ρ H locs arr (hS.st (z_sc_cons (hL.2.2.2 _ _ hl).2 hS.2.2.2.2.2.2.1)) hL)
theorem z_s_aload_n {i : Fin 4} {x : Nat} (hl : ls[(i : Nat)]? = some (some (.ref x))) (hd : decode (z_C j) pc = .ok (.aload_n i, 1)) (k : z_V l j d mc ms SC Qf (pc + 1) ls (.ref x :: st) h uc us) : z_V l j d mc ms SC Qf pc ls (st) h uc us := by
  intro p e R s m args below meth c D cy A ρ0 n0 Z hC ρ H locs arr hS hL
  exact lv_aload_n hC.1 hC.2.1 hd rfl (hL.2.2.2 _ _ hl).1 (k p e R s m args below meth c D cy A ρ0 n0 Z hC ρ H locs arr (hS.st (z_sc_cons (hL.2.2.2 _ _ hl).2 hS.2.2.2.2.2.2.1)) hL)
theorem z_s_istore {i : Nat} {x : Int32} (hd : decode (z_C j) pc = .ok (.istore i, 2)) (hi : (i : Nat) < z_L j) (k : z_V l j d mc ms SC Qf (pc + 2) (z_set ls (i : Nat) (.int x)) st h uc us) : z_V l j d mc ms SC Qf pc ls (.int x :: st) h uc us := by
  intro p e R s m args below meth c D cy A ρ0 n0 Z hC ρ H locs arr hS hL
  exact lv_istore hC.1 hC.2.1 hd hL.has hi rfl (fun arr' h' => k p e R s m args below meth c D cy A ρ0 n0 Z hC ρ H locs arr' (hS.st (z_sc_tail hS.2.2.2.2.2.2.1)) (z_LH_store (v := .int x) hL hi trivial h'))
theorem z_s_istore_n {i : Fin 4} {x : Int32} (hd : decode (z_C j) pc = .ok (.istore_n i, 1)) (hi : (i : Nat) < z_L j) (k : z_V l j d mc ms SC Qf (pc + 1) (z_set ls (i : Nat) (.int x)) st h uc us) : z_V l j d mc ms SC Qf pc ls (.int x :: st) h uc us := by
  intro p e R s m args below meth c D cy A ρ0 n0 Z hC ρ H locs arr hS hL
  exact lv_istore_n hC.1 hC.2.1 hd rfl hL.has hi rfl (fun arr' h' => k p e R s m args below meth c D cy A ρ0 n0 Z hC ρ H locs arr' (hS.st (z_sc_tail hS.2.2.2.2.2.2.1)) (z_LH_store (v := .int x) hL hi trivial h'))
theorem z_s_lstore {i : Nat} {x : Int64} (hd : decode (z_C j) pc = .ok (.lstore i, 2)) (hi : (i : Nat) + 1 < z_L j) (k : z_V l j d mc ms SC Qf (pc + 2) (z_set2 ls (i : Nat) (.long x)) st h uc us) : z_V l j d mc ms SC Qf pc ls (.long x :: st) h uc us := by
  intro p e R s m args below meth c D cy A ρ0 n0 Z hC ρ H locs arr hS hL
  exact lv_lstore hC.1 hC.2.1 hd hL.has hi rfl (fun arr' h' => k p e R s m args below meth c D cy A ρ0 n0 Z hC ρ H locs arr' (hS.st (z_sc_tail hS.2.2.2.2.2.2.1)) (z_LH_store2 (v := .long x) hL hi trivial h'))
theorem z_s_lstore_n {i : Fin 4} {x : Int64} (hd : decode (z_C j) pc = .ok (.lstore_n i, 1)) (hi : (i : Nat) + 1 < z_L j) (k : z_V l j d mc ms SC Qf (pc + 1) (z_set2 ls (i : Nat) (.long x)) st h uc us) : z_V l j d mc ms SC Qf pc ls (.long x :: st) h uc us := by
  intro p e R s m args below meth c D cy A ρ0 n0 Z hC ρ H locs arr hS hL
  exact lv_lstore_n hC.1 hC.2.1 hd rfl hL.has hi rfl (fun arr' h' => k p e R s m args below meth c D cy A ρ0 n0 Z hC ρ H locs arr' (hS.st (z_sc_tail hS.2.2.2.2.2.2.1)) (z_LH_store2 (v := .long x) hL hi trivial h'))
theorem z_s_astore {i : Nat} {x : Nat} (hd : decode (z_C j) pc = .ok (.astore i, 2)) (hi : (i : Nat) < z_L j) (k : z_V l j d mc ms SC Qf (pc + 2) (z_set ls (i : Nat) (.ref x)) st h uc us) : z_V l j d mc ms SC Qf pc ls (.ref x :: st) h uc us := by
  intro p e R s m args below meth c D cy A ρ0 n0 Z hC ρ H locs arr hS hL
  exact lv_astore hC.1 hC.2.1 hd hL.has hi rfl (fun arr' h' => k p e R s m args below meth c D cy A ρ0 n0 Z hC ρ H locs arr' (hS.st (z_sc_tail hS.2.2.2.2.2.2.1)) (z_LH_store (v := .ref x) hL hi (z_sc_head hS.2.2.2.2.2.2.1) h'))
theorem z_s_astore_n {i : Fin 4} {x : Nat} (hd : decode (z_C j) pc = .ok (.astore_n i, 1)) (hi : (i : Nat) < z_L j) (k : z_V l j d mc ms SC Qf (pc + 1) (z_set ls (i : Nat) (.ref x)) st h uc us) : z_V l j d mc ms SC Qf pc ls (.ref x :: st) h uc us := by
  intro p e R s m args below meth c D cy A ρ0 n0 Z hC ρ H locs arr hS hL
  exact lv_astore_n hC.1 hC.2.1 hd rfl hL.has hi rfl (fun arr' h' => k p e R s m args below meth c D cy A ρ0 n0 Z hC ρ H locs arr' (hS.st (z_sc_tail hS.2.2.2.2.2.2.1)) (z_LH_store (v := .ref x) hL hi (z_sc_head hS.2.2.2.2.2.2.1) h'))
theorem z_s_iinc {i : Nat} {n : Int} {x : Int32} (hd : decode (z_C j) pc = .ok (.iinc i n, 3)) (hl : ls[i]? = some (some (.int x))) (hi : i < z_L j) (k : z_V l j d mc ms SC Qf (pc + 3) (z_set ls i (.int (x + Int32.ofInt n))) st h uc us) : z_V l j d mc ms SC Qf pc ls st h uc us := by
  intro p e R s m args below meth c D cy A ρ0 n0 Z hC ρ H locs arr hS hL
  obtain ⟨kk, hk⟩ := List.getElem?_of_mem (z_lvl_mem (ρ := ρ) hl)
  exact lv_iinc hC.1 hC.2.1 hd hL.has hk rfl hi rfl (fun arr' h' => k p e R s m args below meth c D cy A ρ0 n0 Z hC ρ H locs arr' hS (z_LH_store (v := .int (x + Int32.ofInt n)) hL hi trivial h'))
theorem z_s_iadd {x y : Int32} (hd : decode (z_C j) pc = .ok (.iadd, 1)) (k : z_V l j d mc ms SC Qf (pc + 1) ls (.int (x + y) :: st) h uc us) : z_V l j d mc ms SC Qf pc ls (.int y :: .int x :: st) h uc us := by
  intro p e R s m args below meth c D cy A ρ0 n0 Z hC ρ H locs arr hS hL
  exact lv_iadd hC.1 hC.2.1 hd (k p e R s m args below meth c D cy A ρ0 n0 Z hC ρ H locs arr (hS.st (z_sc_cons trivial (z_sc_tail (z_sc_tail hS.2.2.2.2.2.2.1)))) hL)
theorem z_s_isub {x y : Int32} (hd : decode (z_C j) pc = .ok (.isub, 1)) (k : z_V l j d mc ms SC Qf (pc + 1) ls (.int (x - y) :: st) h uc us) : z_V l j d mc ms SC Qf pc ls (.int y :: .int x :: st) h uc us := by
  intro p e R s m args below meth c D cy A ρ0 n0 Z hC ρ H locs arr hS hL
  exact lv_isub hC.1 hC.2.1 hd (k p e R s m args below meth c D cy A ρ0 n0 Z hC ρ H locs arr (hS.st (z_sc_cons trivial (z_sc_tail (z_sc_tail hS.2.2.2.2.2.2.1)))) hL)
theorem z_s_imul {x y : Int32} (hd : decode (z_C j) pc = .ok (.imul, 1)) (k : z_V l j d mc ms SC Qf (pc + 1) ls (.int (x * y) :: st) h uc us) : z_V l j d mc ms SC Qf pc ls (.int y :: .int x :: st) h uc us := by
  intro p e R s m args below meth c D cy A ρ0 n0 Z hC ρ H locs arr hS hL
  exact lv_imul hC.1 hC.2.1 hd (k p e R s m args below meth c D cy A ρ0 n0 Z hC ρ H locs arr (hS.st (z_sc_cons trivial (z_sc_tail (z_sc_tail hS.2.2.2.2.2.2.1)))) hL)
theorem z_s_iand {x y : Int32} (hd : decode (z_C j) pc = .ok (.iand, 1)) (k : z_V l j d mc ms SC Qf (pc + 1) ls (.int (x &&& y) :: st) h uc us) : z_V l j d mc ms SC Qf pc ls (.int y :: .int x :: st) h uc us := by
  intro p e R s m args below meth c D cy A ρ0 n0 Z hC ρ H locs arr hS hL
  exact lv_iand hC.1 hC.2.1 hd (k p e R s m args below meth c D cy A ρ0 n0 Z hC ρ H locs arr (hS.st (z_sc_cons trivial (z_sc_tail (z_sc_tail hS.2.2.2.2.2.2.1)))) hL)
theorem z_s_ior {x y : Int32} (hd : decode (z_C j) pc = .ok (.ior, 1)) (k : z_V l j d mc ms SC Qf (pc + 1) ls (.int (x ||| y) :: st) h uc us) : z_V l j d mc ms SC Qf pc ls (.int y :: .int x :: st) h uc us := by
  intro p e R s m args below meth c D cy A ρ0 n0 Z hC ρ H locs arr hS hL
  exact lv_ior hC.1 hC.2.1 hd (k p e R s m args below meth c D cy A ρ0 n0 Z hC ρ H locs arr (hS.st (z_sc_cons trivial (z_sc_tail (z_sc_tail hS.2.2.2.2.2.2.1)))) hL)
theorem z_s_ixor {x y : Int32} (hd : decode (z_C j) pc = .ok (.ixor, 1)) (k : z_V l j d mc ms SC Qf (pc + 1) ls (.int (x ^^^ y) :: st) h uc us) : z_V l j d mc ms SC Qf pc ls (.int y :: .int x :: st) h uc us := by
  intro p e R s m args below meth c D cy A ρ0 n0 Z hC ρ H locs arr hS hL
  exact lv_ixor hC.1 hC.2.1 hd (k p e R s m args below meth c D cy A ρ0 n0 Z hC ρ H locs arr (hS.st (z_sc_cons trivial (z_sc_tail (z_sc_tail hS.2.2.2.2.2.2.1)))) hL)
theorem z_s_ishl {x y : Int32} (hd : decode (z_C j) pc = .ok (.ishl, 1)) (k : z_V l j d mc ms SC Qf (pc + 1) ls (.int (x <<< (y &&& 31)) :: st) h uc us) : z_V l j d mc ms SC Qf pc ls (.int y :: .int x :: st) h uc us := by
  intro p e R s m args below meth c D cy A ρ0 n0 Z hC ρ H locs arr hS hL
  exact lv_ishl hC.1 hC.2.1 hd (k p e R s m args below meth c D cy A ρ0 n0 Z hC ρ H locs arr (hS.st (z_sc_cons trivial (z_sc_tail (z_sc_tail hS.2.2.2.2.2.2.1)))) hL)
theorem z_s_ishr {x y : Int32} (hd : decode (z_C j) pc = .ok (.ishr, 1)) (k : z_V l j d mc ms SC Qf (pc + 1) ls (.int (x >>> (y &&& 31)) :: st) h uc us) : z_V l j d mc ms SC Qf pc ls (.int y :: .int x :: st) h uc us := by
  intro p e R s m args below meth c D cy A ρ0 n0 Z hC ρ H locs arr hS hL
  exact lv_ishr hC.1 hC.2.1 hd (k p e R s m args below meth c D cy A ρ0 n0 Z hC ρ H locs arr (hS.st (z_sc_cons trivial (z_sc_tail (z_sc_tail hS.2.2.2.2.2.2.1)))) hL)
theorem z_s_iushr {x y : Int32} (hd : decode (z_C j) pc = .ok (.iushr, 1)) (k : z_V l j d mc ms SC Qf (pc + 1) ls (.int (x.toUInt32 >>> (y.toUInt32 &&& Int32.toUInt32 31)).toInt32 :: st) h uc us) : z_V l j d mc ms SC Qf pc ls (.int y :: .int x :: st) h uc us := by
  intro p e R s m args below meth c D cy A ρ0 n0 Z hC ρ H locs arr hS hL
  exact lv_iushr hC.1 hC.2.1 hd rfl (k p e R s m args below meth c D cy A ρ0 n0 Z hC ρ H locs arr (hS.st (z_sc_cons trivial (z_sc_tail (z_sc_tail hS.2.2.2.2.2.2.1)))) hL)
theorem z_s_idiv {x y : Int32} (hne : ¬ y = 0) (hd : decode (z_C j) pc = .ok (.idiv, 1)) (k : z_V l j d mc ms SC Qf (pc + 1) ls (.int (x / y) :: st) h uc us) : z_V l j d mc ms SC Qf pc ls (.int y :: .int x :: st) h uc us := by
  intro p e R s m args below meth c D cy A ρ0 n0 Z hC ρ H locs arr hS hL
  exact lv_idiv hC.1 hC.2.1 hd hne (k p e R s m args below meth c D cy A ρ0 n0 Z hC ρ H locs arr (hS.st (z_sc_cons trivial (z_sc_tail (z_sc_tail hS.2.2.2.2.2.2.1)))) hL)
theorem z_s_ineg {x : Int32} (hd : decode (z_C j) pc = .ok (.ineg, 1)) (k : z_V l j d mc ms SC Qf (pc + 1) ls (.int (-x) :: st) h uc us) : z_V l j d mc ms SC Qf pc ls (.int x :: st) h uc us := by
  intro p e R s m args below meth c D cy A ρ0 n0 Z hC ρ H locs arr hS hL
  exact lv_ineg hC.1 hC.2.1 hd (k p e R s m args below meth c D cy A ρ0 n0 Z hC ρ H locs arr (hS.st (z_sc_cons trivial (z_sc_tail hS.2.2.2.2.2.2.1))) hL)
theorem z_s_i2l {x : Int32} (hd : decode (z_C j) pc = .ok (.i2l, 1)) (k : z_V l j d mc ms SC Qf (pc + 1) ls (.long x.toInt64 :: st) h uc us) : z_V l j d mc ms SC Qf pc ls (.int x :: st) h uc us := by
  intro p e R s m args below meth c D cy A ρ0 n0 Z hC ρ H locs arr hS hL
  exact lv_i2l hC.1 hC.2.1 hd rfl (k p e R s m args below meth c D cy A ρ0 n0 Z hC ρ H locs arr (hS.st (z_sc_cons trivial (z_sc_tail hS.2.2.2.2.2.2.1))) hL)
theorem z_s_i2c {x : Int32} (hd : decode (z_C j) pc = .ok (.i2c, 1)) (k : z_V l j d mc ms SC Qf (pc + 1) ls (.int (x.toUInt32 % 65536).toInt32 :: st) h uc us) : z_V l j d mc ms SC Qf pc ls (.int x :: st) h uc us := by
  intro p e R s m args below meth c D cy A ρ0 n0 Z hC ρ H locs arr hS hL
  exact lv_i2c hC.1 hC.2.1 hd rfl (k p e R s m args below meth c D cy A ρ0 n0 Z hC ρ H locs arr (hS.st (z_sc_cons trivial (z_sc_tail hS.2.2.2.2.2.2.1))) hL)
theorem z_s_ladd {x y : Int64} (hd : decode (z_C j) pc = .ok (.ladd, 1)) (k : z_V l j d mc ms SC Qf (pc + 1) ls (.long (x + y) :: st) h uc us) : z_V l j d mc ms SC Qf pc ls (.long y :: .long x :: st) h uc us := by
  intro p e R s m args below meth c D cy A ρ0 n0 Z hC ρ H locs arr hS hL
  exact lv_ladd hC.1 hC.2.1 hd (k p e R s m args below meth c D cy A ρ0 n0 Z hC ρ H locs arr (hS.st (z_sc_cons trivial (z_sc_tail (z_sc_tail hS.2.2.2.2.2.2.1)))) hL)
theorem z_s_lsub {x y : Int64} (hd : decode (z_C j) pc = .ok (.lsub, 1)) (k : z_V l j d mc ms SC Qf (pc + 1) ls (.long (x - y) :: st) h uc us) : z_V l j d mc ms SC Qf pc ls (.long y :: .long x :: st) h uc us := by
  intro p e R s m args below meth c D cy A ρ0 n0 Z hC ρ H locs arr hS hL
  exact lv_lsub hC.1 hC.2.1 hd (k p e R s m args below meth c D cy A ρ0 n0 Z hC ρ H locs arr (hS.st (z_sc_cons trivial (z_sc_tail (z_sc_tail hS.2.2.2.2.2.2.1)))) hL)
theorem z_s_lmul {x y : Int64} (hd : decode (z_C j) pc = .ok (.lmul, 1)) (k : z_V l j d mc ms SC Qf (pc + 1) ls (.long (x * y) :: st) h uc us) : z_V l j d mc ms SC Qf pc ls (.long y :: .long x :: st) h uc us := by
  intro p e R s m args below meth c D cy A ρ0 n0 Z hC ρ H locs arr hS hL
  exact lv_lmul hC.1 hC.2.1 hd (k p e R s m args below meth c D cy A ρ0 n0 Z hC ρ H locs arr (hS.st (z_sc_cons trivial (z_sc_tail (z_sc_tail hS.2.2.2.2.2.2.1)))) hL)
theorem z_s_land {x y : Int64} (hd : decode (z_C j) pc = .ok (.land, 1)) (k : z_V l j d mc ms SC Qf (pc + 1) ls (.long (x &&& y) :: st) h uc us) : z_V l j d mc ms SC Qf pc ls (.long y :: .long x :: st) h uc us := by
  intro p e R s m args below meth c D cy A ρ0 n0 Z hC ρ H locs arr hS hL
  exact lv_land hC.1 hC.2.1 hd (k p e R s m args below meth c D cy A ρ0 n0 Z hC ρ H locs arr (hS.st (z_sc_cons trivial (z_sc_tail (z_sc_tail hS.2.2.2.2.2.2.1)))) hL)
theorem z_s_lor {x y : Int64} (hd : decode (z_C j) pc = .ok (.lor, 1)) (k : z_V l j d mc ms SC Qf (pc + 1) ls (.long (x ||| y) :: st) h uc us) : z_V l j d mc ms SC Qf pc ls (.long y :: .long x :: st) h uc us := by
  intro p e R s m args below meth c D cy A ρ0 n0 Z hC ρ H locs arr hS hL
  exact lv_lor hC.1 hC.2.1 hd (k p e R s m args below meth c D cy A ρ0 n0 Z hC ρ H locs arr (hS.st (z_sc_cons trivial (z_sc_tail (z_sc_tail hS.2.2.2.2.2.2.1)))) hL)
theorem z_s_lshl {x : Int64} {y : Int32} (hd : decode (z_C j) pc = .ok (.lshl, 1)) (k : z_V l j d mc ms SC Qf (pc + 1) ls (.long (x <<< (y.toInt64 &&& 63)) :: st) h uc us) : z_V l j d mc ms SC Qf pc ls (.int y :: .long x :: st) h uc us := by
  intro p e R s m args below meth c D cy A ρ0 n0 Z hC ρ H locs arr hS hL
  exact lv_lshl hC.1 hC.2.1 hd rfl (k p e R s m args below meth c D cy A ρ0 n0 Z hC ρ H locs arr (hS.st (z_sc_cons trivial (z_sc_tail (z_sc_tail hS.2.2.2.2.2.2.1)))) hL)
theorem z_s_lushr {x : Int64} {y : Int32} (hd : decode (z_C j) pc = .ok (.lushr, 1)) (k : z_V l j d mc ms SC Qf (pc + 1) ls (.long (x.toUInt64 >>> (y.toInt64.toUInt64 &&& Int64.toUInt64 63)).toInt64 :: st) h uc us) : z_V l j d mc ms SC Qf pc ls (.int y :: .long x :: st) h uc us := by
  intro p e R s m args below meth c D cy A ρ0 n0 Z hC ρ H locs arr hS hL
  exact lv_lushr hC.1 hC.2.1 hd rfl (k p e R s m args below meth c D cy A ρ0 n0 Z hC ρ H locs arr (hS.st (z_sc_cons trivial (z_sc_tail (z_sc_tail hS.2.2.2.2.2.2.1)))) hL)
theorem z_s_lcmp {x y : Int64} (hd : decode (z_C j) pc = .ok (.lcmp, 1)) (k : z_V l j d mc ms SC Qf (pc + 1) ls (.int (lg_cmp x y) :: st) h uc us) : z_V l j d mc ms SC Qf pc ls (.long y :: .long x :: st) h uc us := by
  intro p e R s m args below meth c D cy A ρ0 n0 Z hC ρ H locs arr hS hL
  exact W.lcmp hC.1 hC.2.1 hd (k p e R s m args below meth c D cy A ρ0 n0 Z hC ρ H locs arr (hS.st (z_sc_cons trivial (z_sc_tail (z_sc_tail hS.2.2.2.2.2.2.1)))) hL)
theorem z_s_dup {v : Value} (hv : v.category = 1) (hd : decode (z_C j) pc = .ok (.dup, 1)) (k : z_V l j d mc ms SC Qf (pc + 1) ls (v :: v :: st) h uc us) : z_V l j d mc ms SC Qf pc ls (v :: st) h uc us := by
  intro p e R s m args below meth c D cy A ρ0 n0 Z hC ρ H locs arr hS hL
  exact lv_dup hC.1 hC.2.1 hd (by rw [z_cv_cat]; exact hv) (k p e R s m args below meth c D cy A ρ0 n0 Z hC ρ H locs arr (hS.st (z_sc_cons (z_sc_head hS.2.2.2.2.2.2.1) hS.2.2.2.2.2.2.1)) hL)
theorem z_s_dup2 {v w : Value} (hv : v.category = 1) (hw : w.category = 1) (hd : decode (z_C j) pc = .ok (.dup2, 1)) (k : z_V l j d mc ms SC Qf (pc + 1) ls (v :: w :: v :: w :: st) h uc us) : z_V l j d mc ms SC Qf pc ls (v :: w :: st) h uc us := by
  intro p e R s m args below meth c D cy A ρ0 n0 Z hC ρ H locs arr hS hL
  exact lv_dup2_11 hC.1 hC.2.1 hd (by rw [z_cv_cat]; exact hv) (by rw [z_cv_cat]; exact hw) (k p e R s m args below meth c D cy A ρ0 n0 Z hC ρ H locs arr (hS.st (z_sc_cons (z_sc_head hS.2.2.2.2.2.2.1) (z_sc_cons (z_sc_head (z_sc_tail hS.2.2.2.2.2.2.1)) hS.2.2.2.2.2.2.1))) hL)
theorem z_s_pop {v : Value} (hv : v.category = 1) (hd : decode (z_C j) pc = .ok (.pop, 1)) (k : z_V l j d mc ms SC Qf (pc + 1) ls (st) h uc us) : z_V l j d mc ms SC Qf pc ls (v :: st) h uc us := by
  intro p e R s m args below meth c D cy A ρ0 n0 Z hC ρ H locs arr hS hL
  exact lv_pop hC.1 hC.2.1 hd (by rw [z_cv_cat]; exact hv) (k p e R s m args below meth c D cy A ρ0 n0 Z hC ρ H locs arr (hS.st ((z_sc_tail hS.2.2.2.2.2.2.1))) hL)
theorem z_s_goto {off : Int} {t : Nat} (hd : decode (z_C j) pc = .ok (.goto off, 3)) (ht : (pc : Int) + off = (t : Int)) (k : z_V l j d mc ms SC Qf t ls st h uc us) : z_V l j d mc ms SC Qf pc ls st h uc us := by
  intro p e R s m args below meth c D cy A ρ0 n0 Z hC ρ H locs arr hS hL
  exact lv_goto hC.1 hC.2.1 hd ht (k p e R s m args below meth c D cy A ρ0 n0 Z hC ρ H locs arr hS hL)
theorem z_s_icmp_eq {x y : Int32} {off : Int} {t : Nat} (hd : decode (z_C j) pc = .ok (.if_icmp .eq off, 3)) (ht : (pc : Int) + off = (t : Int)) (kt : x = y → z_V l j d mc ms SC Qf t ls st h uc us) (kf : ¬ x = y → z_V l j d mc ms SC Qf (pc + 3) ls st h uc us) : z_V l j d mc ms SC Qf pc ls (.int y :: .int x :: st) h uc us := by
  intro p e R s m args below meth c D cy A ρ0 n0 Z hC ρ H locs arr hS hL
  exact lv_icmp_eq hC.1 hC.2.1 hd ht (fun hc => kt hc p e R s m args below meth c D cy A ρ0 n0 Z hC ρ H locs arr (hS.st (z_sc_tail (z_sc_tail hS.2.2.2.2.2.2.1))) hL) (fun hc => kf hc p e R s m args below meth c D cy A ρ0 n0 Z hC ρ H locs arr (hS.st (z_sc_tail (z_sc_tail hS.2.2.2.2.2.2.1))) hL)
theorem z_s_if_eq {x : Int32} {off : Int} {t : Nat} (hd : decode (z_C j) pc = .ok (.ifCond .eq off, 3)) (ht : (pc : Int) + off = (t : Int)) (kt : x = 0 → z_V l j d mc ms SC Qf t ls st h uc us) (kf : ¬ x = 0 → z_V l j d mc ms SC Qf (pc + 3) ls st h uc us) : z_V l j d mc ms SC Qf pc ls (.int x :: st) h uc us := by
  intro p e R s m args below meth c D cy A ρ0 n0 Z hC ρ H locs arr hS hL
  exact lv_if_eq hC.1 hC.2.1 hd ht (fun hc => kt hc p e R s m args below meth c D cy A ρ0 n0 Z hC ρ H locs arr (hS.st (z_sc_tail hS.2.2.2.2.2.2.1)) hL) (fun hc => kf hc p e R s m args below meth c D cy A ρ0 n0 Z hC ρ H locs arr (hS.st (z_sc_tail hS.2.2.2.2.2.2.1)) hL)
theorem z_s_icmp_ne {x y : Int32} {off : Int} {t : Nat} (hd : decode (z_C j) pc = .ok (.if_icmp .ne off, 3)) (ht : (pc : Int) + off = (t : Int)) (kt : ¬ x = y → z_V l j d mc ms SC Qf t ls st h uc us) (kf : x = y → z_V l j d mc ms SC Qf (pc + 3) ls st h uc us) : z_V l j d mc ms SC Qf pc ls (.int y :: .int x :: st) h uc us := by
  intro p e R s m args below meth c D cy A ρ0 n0 Z hC ρ H locs arr hS hL
  exact lv_icmp_ne hC.1 hC.2.1 hd ht (fun hc => kt hc p e R s m args below meth c D cy A ρ0 n0 Z hC ρ H locs arr (hS.st (z_sc_tail (z_sc_tail hS.2.2.2.2.2.2.1))) hL) (fun hc => kf hc p e R s m args below meth c D cy A ρ0 n0 Z hC ρ H locs arr (hS.st (z_sc_tail (z_sc_tail hS.2.2.2.2.2.2.1))) hL)
theorem z_s_if_ne {x : Int32} {off : Int} {t : Nat} (hd : decode (z_C j) pc = .ok (.ifCond .ne off, 3)) (ht : (pc : Int) + off = (t : Int)) (kt : ¬ x = 0 → z_V l j d mc ms SC Qf t ls st h uc us) (kf : x = 0 → z_V l j d mc ms SC Qf (pc + 3) ls st h uc us) : z_V l j d mc ms SC Qf pc ls (.int x :: st) h uc us := by
  intro p e R s m args below meth c D cy A ρ0 n0 Z hC ρ H locs arr hS hL
  exact lv_if_ne hC.1 hC.2.1 hd ht (fun hc => kt hc p e R s m args below meth c D cy A ρ0 n0 Z hC ρ H locs arr (hS.st (z_sc_tail hS.2.2.2.2.2.2.1)) hL) (fun hc => kf hc p e R s m args below meth c D cy A ρ0 n0 Z hC ρ H locs arr (hS.st (z_sc_tail hS.2.2.2.2.2.2.1)) hL)
theorem z_s_icmp_lt {x y : Int32} {off : Int} {t : Nat} (hd : decode (z_C j) pc = .ok (.if_icmp .lt off, 3)) (ht : (pc : Int) + off = (t : Int)) (kt : x < y → z_V l j d mc ms SC Qf t ls st h uc us) (kf : ¬ x < y → z_V l j d mc ms SC Qf (pc + 3) ls st h uc us) : z_V l j d mc ms SC Qf pc ls (.int y :: .int x :: st) h uc us := by
  intro p e R s m args below meth c D cy A ρ0 n0 Z hC ρ H locs arr hS hL
  exact lv_icmp_lt hC.1 hC.2.1 hd ht (fun hc => kt hc p e R s m args below meth c D cy A ρ0 n0 Z hC ρ H locs arr (hS.st (z_sc_tail (z_sc_tail hS.2.2.2.2.2.2.1))) hL) (fun hc => kf hc p e R s m args below meth c D cy A ρ0 n0 Z hC ρ H locs arr (hS.st (z_sc_tail (z_sc_tail hS.2.2.2.2.2.2.1))) hL)
theorem z_s_if_lt {x : Int32} {off : Int} {t : Nat} (hd : decode (z_C j) pc = .ok (.ifCond .lt off, 3)) (ht : (pc : Int) + off = (t : Int)) (kt : x < 0 → z_V l j d mc ms SC Qf t ls st h uc us) (kf : ¬ x < 0 → z_V l j d mc ms SC Qf (pc + 3) ls st h uc us) : z_V l j d mc ms SC Qf pc ls (.int x :: st) h uc us := by
  intro p e R s m args below meth c D cy A ρ0 n0 Z hC ρ H locs arr hS hL
  exact lv_if_lt hC.1 hC.2.1 hd ht (fun hc => kt hc p e R s m args below meth c D cy A ρ0 n0 Z hC ρ H locs arr (hS.st (z_sc_tail hS.2.2.2.2.2.2.1)) hL) (fun hc => kf hc p e R s m args below meth c D cy A ρ0 n0 Z hC ρ H locs arr (hS.st (z_sc_tail hS.2.2.2.2.2.2.1)) hL)
theorem z_s_icmp_ge {x y : Int32} {off : Int} {t : Nat} (hd : decode (z_C j) pc = .ok (.if_icmp .ge off, 3)) (ht : (pc : Int) + off = (t : Int)) (kt : y ≤ x → z_V l j d mc ms SC Qf t ls st h uc us) (kf : ¬ y ≤ x → z_V l j d mc ms SC Qf (pc + 3) ls st h uc us) : z_V l j d mc ms SC Qf pc ls (.int y :: .int x :: st) h uc us := by
  intro p e R s m args below meth c D cy A ρ0 n0 Z hC ρ H locs arr hS hL
  exact lv_icmp_ge hC.1 hC.2.1 hd ht (fun hc => kt hc p e R s m args below meth c D cy A ρ0 n0 Z hC ρ H locs arr (hS.st (z_sc_tail (z_sc_tail hS.2.2.2.2.2.2.1))) hL) (fun hc => kf hc p e R s m args below meth c D cy A ρ0 n0 Z hC ρ H locs arr (hS.st (z_sc_tail (z_sc_tail hS.2.2.2.2.2.2.1))) hL)
theorem z_s_if_ge {x : Int32} {off : Int} {t : Nat} (hd : decode (z_C j) pc = .ok (.ifCond .ge off, 3)) (ht : (pc : Int) + off = (t : Int)) (kt : 0 ≤ x → z_V l j d mc ms SC Qf t ls st h uc us) (kf : ¬ 0 ≤ x → z_V l j d mc ms SC Qf (pc + 3) ls st h uc us) : z_V l j d mc ms SC Qf pc ls (.int x :: st) h uc us := by
  intro p e R s m args below meth c D cy A ρ0 n0 Z hC ρ H locs arr hS hL
  exact lv_if_ge hC.1 hC.2.1 hd ht (fun hc => kt hc p e R s m args below meth c D cy A ρ0 n0 Z hC ρ H locs arr (hS.st (z_sc_tail hS.2.2.2.2.2.2.1)) hL) (fun hc => kf hc p e R s m args below meth c D cy A ρ0 n0 Z hC ρ H locs arr (hS.st (z_sc_tail hS.2.2.2.2.2.2.1)) hL)
theorem z_s_icmp_gt {x y : Int32} {off : Int} {t : Nat} (hd : decode (z_C j) pc = .ok (.if_icmp .gt off, 3)) (ht : (pc : Int) + off = (t : Int)) (kt : y < x → z_V l j d mc ms SC Qf t ls st h uc us) (kf : ¬ y < x → z_V l j d mc ms SC Qf (pc + 3) ls st h uc us) : z_V l j d mc ms SC Qf pc ls (.int y :: .int x :: st) h uc us := by
  intro p e R s m args below meth c D cy A ρ0 n0 Z hC ρ H locs arr hS hL
  exact lv_icmp_gt hC.1 hC.2.1 hd ht (fun hc => kt hc p e R s m args below meth c D cy A ρ0 n0 Z hC ρ H locs arr (hS.st (z_sc_tail (z_sc_tail hS.2.2.2.2.2.2.1))) hL) (fun hc => kf hc p e R s m args below meth c D cy A ρ0 n0 Z hC ρ H locs arr (hS.st (z_sc_tail (z_sc_tail hS.2.2.2.2.2.2.1))) hL)
theorem z_s_if_gt {x : Int32} {off : Int} {t : Nat} (hd : decode (z_C j) pc = .ok (.ifCond .gt off, 3)) (ht : (pc : Int) + off = (t : Int)) (kt : 0 < x → z_V l j d mc ms SC Qf t ls st h uc us) (kf : ¬ 0 < x → z_V l j d mc ms SC Qf (pc + 3) ls st h uc us) : z_V l j d mc ms SC Qf pc ls (.int x :: st) h uc us := by
  intro p e R s m args below meth c D cy A ρ0 n0 Z hC ρ H locs arr hS hL
  exact lv_if_gt hC.1 hC.2.1 hd ht (fun hc => kt hc p e R s m args below meth c D cy A ρ0 n0 Z hC ρ H locs arr (hS.st (z_sc_tail hS.2.2.2.2.2.2.1)) hL) (fun hc => kf hc p e R s m args below meth c D cy A ρ0 n0 Z hC ρ H locs arr (hS.st (z_sc_tail hS.2.2.2.2.2.2.1)) hL)
theorem z_s_icmp_le {x y : Int32} {off : Int} {t : Nat} (hd : decode (z_C j) pc = .ok (.if_icmp .le off, 3)) (ht : (pc : Int) + off = (t : Int)) (kt : x ≤ y → z_V l j d mc ms SC Qf t ls st h uc us) (kf : ¬ x ≤ y → z_V l j d mc ms SC Qf (pc + 3) ls st h uc us) : z_V l j d mc ms SC Qf pc ls (.int y :: .int x :: st) h uc us := by
  intro p e R s m args below meth c D cy A ρ0 n0 Z hC ρ H locs arr hS hL
  exact lv_icmp_le hC.1 hC.2.1 hd ht (fun hc => kt hc p e R s m args below meth c D cy A ρ0 n0 Z hC ρ H locs arr (hS.st (z_sc_tail (z_sc_tail hS.2.2.2.2.2.2.1))) hL) (fun hc => kf hc p e R s m args below meth c D cy A ρ0 n0 Z hC ρ H locs arr (hS.st (z_sc_tail (z_sc_tail hS.2.2.2.2.2.2.1))) hL)
theorem z_s_if_le {x : Int32} {off : Int} {t : Nat} (hd : decode (z_C j) pc = .ok (.ifCond .le off, 3)) (ht : (pc : Int) + off = (t : Int)) (kt : x ≤ 0 → z_V l j d mc ms SC Qf t ls st h uc us) (kf : ¬ x ≤ 0 → z_V l j d mc ms SC Qf (pc + 3) ls st h uc us) : z_V l j d mc ms SC Qf pc ls (.int x :: st) h uc us := by
  intro p e R s m args below meth c D cy A ρ0 n0 Z hC ρ H locs arr hS hL
  exact lv_if_le hC.1 hC.2.1 hd ht (fun hc => kt hc p e R s m args below meth c D cy A ρ0 n0 Z hC ρ H locs arr (hS.st (z_sc_tail hS.2.2.2.2.2.2.1)) hL) (fun hc => kf hc p e R s m args below meth c D cy A ρ0 n0 Z hC ρ H locs arr (hS.st (z_sc_tail hS.2.2.2.2.2.2.1)) hL)
theorem z_s_tsw {x : Int32} {dflt lo hi : Int} {offs : Array Int} {len t0 : Nat} (hd : decode (z_C j) pc = .ok (.tableswitch dflt lo hi offs, len)) (ht : (pc : Int) + dflt = (t0 : Int)) (kd : (x.toInt < lo ∨ hi < x.toInt) → z_V l j d mc ms SC Qf t0 ls st h uc us) (ki : ¬ x.toInt < lo → ¬ hi < x.toInt → ∃ (off : Int) (t : Nat), offs[(x.toInt - lo).toNat]? = some off ∧ (pc : Int) + off = (t : Int) ∧ z_V l j d mc ms SC Qf t ls st h uc us) : z_V l j d mc ms SC Qf pc ls (.int x :: st) h uc us := by
  intro p e R s m args below meth c D cy A ρ0 n0 Z hC ρ H locs arr hS hL
  by_cases h1 : x.toInt < lo
  · exact lv_tableOut hC.1 hC.2.1 hd (Or.inl h1) ht (kd (Or.inl h1) p e R s m args below meth c D cy A ρ0 n0 Z hC ρ H locs arr (hS.st (z_sc_tail hS.2.2.2.2.2.2.1)) hL)
  · by_cases h2 : hi < x.toInt
    · exact lv_tableOut hC.1 hC.2.1 hd (Or.inr h2) ht (kd (Or.inr h2) p e R s m args below meth c D cy A ρ0 n0 Z hC ρ H locs arr (hS.st (z_sc_tail hS.2.2.2.2.2.2.1)) hL)
    · obtain ⟨off, t, e1, e2, k⟩ := ki h1 h2
      exact lv_tableIn hC.1 hC.2.1 hd h1 h2 e1 e2 (k p e R s m args below meth c D cy A ρ0 n0 Z hC ρ H locs arr (hS.st (z_sc_tail hS.2.2.2.2.2.2.1)) hL)
theorem z_cl_in {o i : Nat} {v : Int} (h : (o, i, v) ∈ z_cl) : Cond.constant (z_own o) i (Int32.ofInt v) ∈ TW := z_at z_cl_ok _ (List.mem_map.mpr ⟨_, h, rfl⟩)
theorem z_cL_in {o i : Nat} {v : Int} (h : (o, i, v) ∈ z_cL) : Cond.constantLong (z_own o) i (Int64.ofInt v) ∈ TW := z_at z_cL_ok _ (List.mem_map.mpr ⟨_, h, rfl⟩)
theorem z_s_ldc {i : Nat} {v : Int} (hd : decode (z_C j) pc = .ok (.ldc i, 2)) (hc : (z_O j, i, v) ∈ z_cl) (k : z_V l j d mc ms SC Qf (pc + 2) ls (.int (Int32.ofInt v) :: st) h uc us) : z_V l j d mc ms SC Qf pc ls st h uc us := by
  intro p e R s m args below meth c D cy A ρ0 n0 Z hC ρ H locs arr hS hL
  exact lv_ldc hC.1 hC.2.1 hC.2.2.2.1 (hC.2.2.2.2.1 _ (z_cl_in hc)) hd (k p e R s m args below meth c D cy A ρ0 n0 Z hC ρ H locs arr (hS.st (z_sc_cons trivial hS.2.2.2.2.2.2.1)) hL)
theorem z_s_ldc_w {i : Nat} {v : Int} (hd : decode (z_C j) pc = .ok (.ldc_w i, 3)) (hc : (z_O j, i, v) ∈ z_cl) (k : z_V l j d mc ms SC Qf (pc + 3) ls (.int (Int32.ofInt v) :: st) h uc us) : z_V l j d mc ms SC Qf pc ls st h uc us := by
  intro p e R s m args below meth c D cy A ρ0 n0 Z hC ρ H locs arr hS hL
  exact lv_ldcw hC.1 hC.2.1 hC.2.2.2.1 (hC.2.2.2.2.1 _ (z_cl_in hc)) hd (k p e R s m args below meth c D cy A ρ0 n0 Z hC ρ H locs arr (hS.st (z_sc_cons trivial hS.2.2.2.2.2.2.1)) hL)
theorem z_s_ldc2_w {i : Nat} {v : Int} (hd : decode (z_C j) pc = .ok (.ldc2_w i, 3)) (hc : (z_O j, i, v) ∈ z_cL) (k : z_V l j d mc ms SC Qf (pc + 3) ls (.long (Int64.ofInt v) :: st) h uc us) : z_V l j d mc ms SC Qf pc ls st h uc us := by
  intro p e R s m args below meth c D cy A ρ0 n0 Z hC ρ H locs arr hS hL
  exact lv_ldc2 hC.1 hC.2.1 hC.2.2.2.1 (hC.2.2.2.2.1 _ (z_cL_in hc)) hd (k p e R s m args below meth c D cy A ρ0 n0 Z hC ρ H locs arr (hS.st (z_sc_cons trivial hS.2.2.2.2.2.2.1)) hL)
theorem z_s_ret {i : Instr} {r : Option Value} (hd : decode (z_C j) pc = .ok (i, 1)) (hr : z_RI i (z_R j) r) (hq : Qf r h) : z_V l j d mc ms SC Qf pc ls r.toList h uc us := by
  intro p e R s m args below meth c D cy A ρ0 n0 Z hC ρ H locs arr hS hL
  exact hC.2.2.2.2.2.2.2.2.2.2.2.2 ρ h H locs arr i pc r uc us hd hr hq hS
def z_le : List (Option Value) → List (Option Value) → Prop
  | [], [] => True
  | a :: l, b :: m => (b = none ∨ b = a) ∧ z_le l m
  | _, _ => False
theorem z_le_spec : ∀ {l m : List (Option Value)}, z_le l m → l.length = m.length ∧ ∀ (i : Nat) (v : Value), m[i]? = some (some v) → l[i]? = some (some v)
  | [], [], _ => ⟨rfl, fun i v h => h⟩
  | a :: l, b :: m, h => by
    obtain ⟨h1, h2⟩ := z_le_spec h.2
    refine ⟨by simp [h1], fun i v hi => ?_⟩
    cases i with
    | zero =>
      rw [List.getElem?_cons_zero] at hi ⊢
      cases hi
      rcases h.1 with h | h
      · cases h
      · rw [h]
    | succ i =>
      rw [List.getElem?_cons_succ] at hi ⊢
      exact h2 i v hi
theorem z_V.weak {ls' : List (Option Value)} (k : z_V l j d mc ms SC Qf pc ls' st h uc us) (hl : z_le ls ls') : z_V l j d mc ms SC Qf pc ls st h uc us := by
  intro p e R s m args below meth c D cy A ρ0 n0 Z hC ρ H locs arr hS hL
  obtain ⟨h1, h2⟩ := z_le_spec hl
  exact k p e R s m args below meth c D cy A ρ0 n0 Z hC ρ H locs arr hS ⟨hL.1, hL.2.1, h1.symm.trans hL.2.2.1, fun i v hi => hL.2.2.2 i v (h2 i v hi)⟩
theorem z_V.wide {uc' us' : Nat} (k : z_V l j d mc ms SC Qf pc ls st h uc' us') (h1 : uc ≤ uc') (h2 : us ≤ us') (h3 : uc' ≤ mc) (h4 : us' ≤ ms) : z_V l j d mc ms SC Qf pc ls st h uc us := by
  intro p e R s m args below meth c D cy A ρ0 n0 Z hC ρ H locs arr hS hL
  exact W.widen h1 h2 (k p e R s m args below meth c D cy A ρ0 n0 Z hC ρ H locs arr ⟨hS.1, hS.2.1, hS.2.2.1, hS.2.2.2.1, hS.2.2.2.2.1, hS.2.2.2.2.2.1, hS.2.2.2.2.2.2.1, h3, h4⟩ hL)
end ZR
