/-! NEW PLACES, CALLS, CONTRACTS -/
def z_isL : FieldType → Bool
  | .long => true
  | _ => false
theorem z_tyB : (List.range 12).all (fun c => (List.range (z_num c)).all (fun k => z_ii (z_ty c k) || z_rr (z_ty c k) || z_isL (z_ty c k))) = true := by decide +kernel
theorem z_ty_in {c k : Nat} (hc : c < 12) (hk : k < z_num c) : z_ii (z_ty c k) = true ∨ z_rr (z_ty c k) = true ∨ z_isL (z_ty c k) = true := by
  have h := List.all_eq_true.mp (List.all_eq_true.mp z_tyB c (List.mem_range.mpr hc)) k (List.mem_range.mpr hk)
  simp only [Bool.or_eq_true] at h
  rcases h with (h | h) | h
  · exact Or.inl h
  · exact Or.inr (Or.inl h)
  · exact Or.inr (Or.inr h)
theorem z_born {ρ : Nat → Nat} {h : zH} {c : Nat} (len : Nat) (hc : c < 12) : ∀ j, j < z_num c → defaultValue (z_ty c j) = vp_V (z_fs ρ (z_hN h c len) h.1 c) j := by
  intro j hj
  simp only [vp_V, List.getD_eq_getElem?_getD, z_fs_get hj, Option.getD_some]
  rcases z_ty_in hc hj with q | q | q <;> cases hz : z_ty c j <;> rw [hz] at q <;> first | (cases q; done) | simp [z_sv, z_w, z_cv, defaultValue]
theorem z_arr_in : ∀ w ∈ ([.arrayClass .int, .arrayClass .boolean, .arrayClass .long, .arrayClass .char] : List Cond), w ∈ TW := z_at (is := [142, 227, 358, 499]) (by decide +kernel)
def z_atk : ArrayType → Nat
  | .char => 12
  | .int => 13
  | .long => 14
  | .boolean => 15
  | _ => 0
def z_mrB (r : z_MR) : Bool := ((parseMethodDescriptor r.1.desc).map (fun d => d.parameters.length) == some r.2.2.2.2.2.2) && decide (r.1.cls ≠ "java/lang/invoke/MethodHandle") && decide (r.1.cls ≠ "java/lang/invoke/VarHandle") && (plainName r.1.cls || decide (12 < r.2.2.2.2.1)) && decide (r.1.cls = z_own r.2.2.2.2.1) && decide (r.2.2.1 ≤ 81)
theorem z_mrs : z_mt.all z_mrB = true := by decide +kernel
theorem z_mt_len : z_mt.length = 259 := by decide +kernel
theorem z_mt_own : (List.range 258).all (fun j => decide (z_O j ≠ 12)) = true := by decide +kernel
theorem z_m_in : ∀ r ∈ z_mt, r.2.2.2.2.1 ≠ 12 → z_cw r ∈ TW ∧ ∀ w ∈ z_mw r, w ∈ TW := by
  have key : ∀ (mt : List z_MR) (is ks : List Nat), z_atB is ((mt.filter (fun r => r.2.2.2.2.1 != 12)).flatMap z_mw) = true → (mt.filter (fun r => r.2.2.2.2.1 != 12)).map z_cw = ks.filterMap (fun i => lw_tbl[i]?) → ∀ r ∈ mt, r.2.2.2.2.1 ≠ 12 → z_cw r ∈ TW ∧ ∀ w ∈ z_mw r, w ∈ TW := by
    intro mt is ks h1 h2 r hr hne
    have hf : r ∈ mt.filter (fun r => r.2.2.2.2.1 != 12) := List.mem_filter.mpr ⟨hr, by simpa using hne⟩
    refine ⟨?_, fun w hw => z_at h1 w (List.mem_flatMap.mpr ⟨r, hf, hw⟩)⟩
    have h3 : z_cw r ∈ (mt.filter (fun r => r.2.2.2.2.1 != 12)).map z_cw := List.mem_map.mpr ⟨r, hf, rfl⟩
    rw [h2] at h3
    obtain ⟨i, -, hi⟩ := List.mem_filterMap.mp h3
    exact z_TW_at hi rfl
  intro r hr
  simp only [z_mt, List.mem_append] at hr
  rcases hr with (((((((((((hr | hr) | hr) | hr) | hr) | hr) | hr) | hr) | hr) | hr) | hr) | hr) | hr
  · exact key _ _ _ z_mt0_ok z_mt0_cd r hr
  · exact key _ _ _ z_mt1_ok z_mt1_cd r hr
  · exact key _ _ _ z_mt2_ok z_mt2_cd r hr
  · exact key _ _ _ z_mt3_ok z_mt3_cd r hr
  · exact key _ _ _ z_mt4_ok z_mt4_cd r hr
  · exact key _ _ _ z_mt5_ok z_mt5_cd r hr
  · exact key _ _ _ z_mt6_ok z_mt6_cd r hr
  · exact key _ _ _ z_mt7_ok z_mt7_cd r hr
  · exact key _ _ _ z_mt8_ok z_mt8_cd r hr
  · exact key _ _ _ z_mt9_ok z_mt9_cd r hr
  · exact key _ _ _ z_mt10_ok z_mt10_cd r hr
  · exact key _ _ _ z_mt11_ok z_mt11_cd r hr
  · exact key _ _ _ z_mt12_ok z_mt12_cd r hr
theorem z_row {j : Nat} (hj : j < 258) : ∃ r : z_MR, z_mt[j]? = some r ∧ r ∈ z_mt ∧ z_mrB r = true ∧ z_y j = r.1 ∧ z_C j = r.2.1 ∧ z_L j = r.2.2.1 ∧ z_R j = r.2.2.2.1 ∧ z_O j = r.2.2.2.2.1 ∧ z_Kd j = r.2.2.2.2.2.1 ∧ z_An j = r.2.2.2.2.2.2 ∧ r.2.2.2.2.1 ≠ 12 := by
  have hl : j < z_mt.length := by rw [z_mt_len]; omega
  have e : z_mt[j]? = some z_mt[j] := List.getElem?_eq_getElem hl
  have h12 : z_O j ≠ 12 := by simpa using List.all_eq_true.mp z_mt_own j (List.mem_range.mpr hj)
  have eO : z_O j = z_mt[j].2.2.2.2.1 := by simp only [z_O, e, Option.map_some, Option.getD_some]
  refine ⟨z_mt[j], e, List.getElem_mem hl, List.all_eq_true.mp z_mrs _ (List.getElem_mem hl), ?_, ?_, ?_, ?_, eO, ?_, ?_, by rw [← eO]; exact h12⟩ <;> simp only [z_y, z_C, z_L, z_R, z_Kd, z_An, e, Option.map_some, Option.getD_some]
/-- what the tables say of a method -/
theorem z_mf {j : Nat} (hj : j < 258) : Cond.code (z_y j) (z_C j) (z_L j) (z_R j) ∈ TW ∧ Cond.initialized (z_y j).cls ∈ TW ∧ (z_Kd j = 0 → Cond.static (z_y j) ∈ TW) ∧ (z_Kd j ≠ 0 → Cond.instanceMethod (z_y j) ∈ TW) ∧ (z_Kd j = 1 → Cond.selects (z_y j).cls (z_y j) (z_y j) ∈ TW) ∧
    ((z_y j).cls ≠ "java/lang/invoke/MethodHandle" ∧ (z_y j).cls ≠ "java/lang/invoke/VarHandle" ∧ (parseMethodDescriptor (z_y j).desc).map (fun d => d.parameters.length) = some (z_An j)) ∧ (plainName (z_y j).cls = true ∨ 12 < z_O j) ∧ (z_y j).cls = z_own (z_O j) ∧ z_L j ≤ 81 := by
  obtain ⟨r, -, hm, hB, e1, e2, e3, e4, e5, e6, e7, hne⟩ := z_row hj
  obtain ⟨h1, h2⟩ := z_m_in r hm hne
  simp only [z_mrB, Bool.and_eq_true, Bool.or_eq_true, decide_eq_true_eq, beq_iff_eq] at hB
  rw [e1, e2, e3, e4, e5, e6, e7]
  refine ⟨h1, h2 _ (List.mem_append_left _ List.mem_cons_self), fun hk => h2 _ ?_, fun hk => h2 _ ?_, fun hk => h2 _ ?_, ⟨hB.1.1.1.1.2, hB.1.1.1.2, hB.1.1.1.1.1⟩, hB.1.1.2, hB.1.2, hB.2⟩
  · rw [z_mw, if_pos hk]; simp
  · rw [z_mw, if_neg hk]
    by_cases hk2 : r.2.2.2.2.2.1 = 2
    · rw [if_pos hk2]; simp
    · rw [if_neg hk2]; simp
  · rw [z_mw, if_neg (by omega), if_neg (by omega)]; simp
theorem z_ml_in {o i j : Nat} (h : (o, i, j) ∈ z_ml) : Cond.methodLink (z_own o) i (z_y j) ∈ TW := by
  have key : ∀ r ∈ z_ml, z_lw r ∈ TW := by
    intro r hr
    simp only [z_ml, List.mem_append] at hr
    rcases hr with ((((hr | hr) | hr) | hr) | hr)
    · exact z_at z_ml0_ok _ (List.mem_map.mpr ⟨_, hr, rfl⟩)
    · exact z_at z_ml1_ok _ (List.mem_map.mpr ⟨_, hr, rfl⟩)
    · exact z_at z_ml2_ok _ (List.mem_map.mpr ⟨_, hr, rfl⟩)
    · exact z_at z_ml3_ok _ (List.mem_map.mpr ⟨_, hr, rfl⟩)
    · exact z_at z_ml4_ok _ (List.mem_map.mpr ⟨_, hr, rfl⟩)
  exact key _ h
theorem z_mn_in {o i j : Nat} (h : (o, i, j) ∈ z_mn) : Cond.methodLinkNest (z_own o) i (z_y j) "MarkCabinet" ∈ z_nest := List.mem_append_right _ (List.mem_map.mpr ⟨_, h, rfl⟩)
theorem z_nl_in {o i c : Nat} (h : (o, i, c) ∈ z_nl) : Cond.classLink (z_own o) i (z_own c) ∈ TW ∧ Cond.instantiable (z_own c) (z_num c) ∈ TW ∧ Cond.initialized (z_own c) ∈ TW := by
  have key : ∀ w ∈ z_nw (o, i, c), w ∈ TW := fun w hw => z_at z_nl_ok w (List.mem_flatMap.mpr ⟨_, h, hw⟩)
  exact ⟨key _ (by simp [z_nw]), key _ (by simp [z_nw]), key _ (by simp [z_nw])⟩
theorem z_fn1 : ∀ r ∈ z_fn, r.2.2.2.2 = 1 := by decide +kernel
theorem z_nest_warm {w : Cond} (hw : w ∈ z_nest) {s U : State} (hW : s.WarmedH U.vm) (h : va_Nw w s) : va_Nw w U := by
  rcases List.mem_append.mp hw with hw | hw
  · obtain ⟨r, hr, rfl⟩ := List.mem_map.mp hw
    have h1 := z_fn1 r hr
    unfold z_fw at h ⊢
    rw [if_neg (by omega)] at h ⊢
    exact va_Nw.warmF hW h
  · obtain ⟨r, hr, rfl⟩ := List.mem_map.mp hw
    exact va_Nw.warmM hW h
theorem z_nest_same {w : Cond} (hw : w ∈ z_nest) {s U : State} (hv : s.vm = U.vm) (h : va_Nw w s) : va_Nw w U := by
  rcases List.mem_append.mp hw with hw | hw
  · obtain ⟨r, hr, rfl⟩ := List.mem_map.mp hw
    have h1 := z_fn1 r hr
    unfold z_fw at h ⊢
    rw [if_neg (by omega)] at h ⊢
    exact va_Nw.same rfl hv h
  · obtain ⟨r, hr, rfl⟩ := List.mem_map.mp hw
    exact va_Nw.same rfl hv h
theorem z_EX.go {ρ : Nat → Nat} {A B : Nat → Prop} {s U : State} {locs : List Loc} (h : z_EX ρ A s s.heap) (hW : s.WarmedH U.vm) (hS : va_S A s.heap U.heap locs) (hAB : ∀ q, B q → A q) : z_EX ρ B U U.heap := by
  obtain ⟨h1, h2, ⟨adV, h3⟩, ⟨r1, r2, r3, r4⟩, h5, h6⟩ := h
  have kq : ∀ a : Nat, a < s.heap.size → ¬ A a → U.heap[a]? = s.heap[a]? := hS.2.1
  exact ⟨fun w hw => z_nest_warm hw hW (h1 w hw), va_AO.moved hW.alike h2, ⟨adV, ((h3.moved hW.alike).kept kq).narrow hAB⟩, ⟨r1.warm hW, r2.warm hW, r3.warm hW, r4.warm hW⟩, ((h5.moved hW.alike).kept kq).narrow hAB, ((h6.moved hW.alike).kept kq).narrow hAB⟩
theorem z_EX.same {ρ : Nat → Nat} {A : Nat → Prop} {s U : State} {H : Heap} (h : z_EX ρ A s H) (hv : s.vm = U.vm) : z_EX ρ A U H := by
  obtain ⟨h1, h2, ⟨adV, h3⟩, ⟨r1, r2, r3, r4⟩, h5, h6⟩ := h
  have ha : s.vm.Alike U.vm := by rw [hv]; exact Vm.Alike.refl _
  exact ⟨fun w hw => z_nest_same hw hv (h1 w hw), va_AO.moved ha h2, ⟨adV, h3.moved ha⟩, ⟨r1.same hv.symm, r2.same hv.symm, r3.same hv.symm, r4.same hv.symm⟩, h5.moved ha, h6.moved ha⟩
theorem z_EX.rho {ρ ρ' : Nat → Nat} {A : Nat → Prop} {s : State} {H : Heap} (h : z_EX ρ A s H) (hr : ∀ q, q < 5 → ρ' q = ρ q) : z_EX ρ' A s H := by
  obtain ⟨h1, h2, ⟨adV, h3⟩, ⟨r1, r2, r3, r4⟩, h5, h6⟩ := h
  refine ⟨h1, h2, ⟨adV, ⟨fun i hi => ?_, fun i k hi hk => ?_⟩⟩, ?_, h5, h6⟩
  · have := h3.1 i hi
    simp only [hr (i + 1) (by omega)]
    exact this
  · simp only [hr (i + 1) (by omega), hr (k + 1) (by omega)]
    exact h3.2 i k hi hk
  · rw [hr 1 (by omega), hr 2 (by omega), hr 3 (by omega), hr 4 (by omega)]
    exact ⟨r1, r2, r3, r4⟩
theorem z_blind {D : va_G} {cy : Nat → ClassId} {ρ : Nat → Nat} {h : zH} {sz : Nat} {as : List Value} : FrameBlind (z_Pc D cy ρ h sz as) := by
  intro a U g mk hp
  obtain ⟨e1, e2, hP, hD, hK, hE⟩ := hp
  exact ⟨e1, e2, hP, hD, va_K.moved (u := U) (U := U.calling g mk a) (Vm.Alike.refl U.vm) hK, hE.same rfl⟩
section ZCL
variable {l : Launch} {j d mc ms : Nat} {SC : Option (Nat × (Nat → Int32))} {Qf : Option Value → zH → Prop} {pc : Nat} {ls : List (Option Value)} {st : List Value} {h : zH} {uc us : Nat}
variable {p : Program} {e : Env} {R : Room} {s : State} {m : MethodId} {args : Array Value} {below : List Frame} {meth : Method} {c : Code} {D : va_G} {cy : Nat → ClassId} {A : Nat → Prop} {ρ0 : Nat → Nat} {n0 : Nat} {Z : State → Prop} {ρ : Nat → Nat} {H : Heap} {locs : List Loc} {arr : Array Slot}
theorem z_alloc {kd len N pcn : Nat} {st0 : List Value} (kk : z_V l j d mc ms SC Qf pcn ls (.ref h.1 :: st) (z_hN h kd len) (uc + 1) (us + N)) (hC : z_CT l j d mc ms SC Qf p e R s m args below meth c D cy A ρ0 n0 Z) (hS : z_SV D cy A ρ0 n0 s mc ms ρ h H locs st0 uc us) (hst : ∀ v ∈ st, z_sc h.1 v) (hL : z_LH arr (z_L j) ρ h.1 ls) (hc : uc + 1 ≤ mc) (hs : us + N ≤ ms)
    (q : Nat) (H1 : Heap) (E : va_E) (hE : z_conc (z_w ρ h.1 q) cy (z_hN h kd len) h.1 = E) (hP : va_P D z_classes (z_ws ρ cy h ++ [(q, E)]) H1) (hD : va_D A (z_ws ρ cy h ++ [(q, E)])) (hS1 : va_S A s.heap H1 locs) : W p l e R s m args below meth c H1 locs (uc + 1) (us + N) Z (F0 m pcn arr (.ref q :: st.map (z_cv ρ))) := by
  have ok := hS.2.2.2.2.1
  have hr : ∀ x, x < h.1 → z_w ρ h.1 q x = ρ x := fun x hx => by simp [z_w, Nat.ne_of_lt hx]
  have hws : z_ws (z_w ρ h.1 q) cy (z_hN h kd len) = z_ws ρ cy h ++ [(q, E)] := by
    rw [z_ws_push (h := h) (h' := z_hN h kd len) (ρ := ρ) ok.1 rfl (fun x hx => ⟨hr x hx, z_conc_congr ?_ ?_ ?_ ?_ ?_ (fun k => ?_)⟩), hE]
    · simp [z_w]
    · show z_w _ _ _ x = _
      simp [z_w, Nat.ne_of_lt hx]
    · show z_w _ _ _ x = _
      simp [z_w, Nat.ne_of_lt hx]
    · show z_w _ _ _ x = _
      simp [z_w, Nat.ne_of_lt hx]
    · show z_w _ _ _ x = _
      simp [z_w, Nat.ne_of_lt hx]
    · show z_w _ _ _ x = _
      simp [z_w, Nat.ne_of_lt hx]
    · refine z_cv_eq hr ?_
      rcases ok.2.2 x k with z | ⟨a, z1, z2⟩
      · rw [z]; trivial
      · rw [z2]; exact z1
  rw [← hws] at hP hD
  have hst' : (Value.ref q :: st.map (z_cv ρ)) = (Value.ref h.1 :: st).map (z_cv (z_w ρ h.1 q)) := by
    rw [List.map_cons, z_cvs_eq hr hst]
    simp [z_cv, z_w]
  rw [hst']
  refine kk p e R s m args below meth c D cy A ρ0 n0 Z hC _ H1 locs arr ⟨fun x hx => ?_, ?_, hP, hD, z_ok_N ok kd len, hS1, ?_, hc, hs⟩ (hL.mono (Nat.le_succ _) hr)
  · rw [hr x (Nat.lt_of_lt_of_le hx hS.2.1)]; exact hS.1 x hx
  · show n0 ≤ h.1 + 1
    have := hS.2.1
    omega
  · refine z_sc_cons ?_ (fun v hv => z_sc_mono (Nat.le_succ _) (hst v hv))
    show h.1 < h.1 + 1
    omega
theorem z_after {mc' ms' : Nat} {rest st0 : List Value} {stc : List Value} {Q' : Option Value → zH → Prop} {a : Array Value} (hr : va_Run p l e R s m args below meth c H locs uc us mc' ms' (F0 m pc arr stc) (rest.map (z_cv ρ)) (z_Qc D cy ρ h H.size Q' a) (z_AA ρ cy h H.size)) (hC : z_CT l j d mc ms SC Qf p e R s m args below meth c D cy A ρ0 n0 Z) (hS : z_SV D cy A ρ0 n0 s mc ms ρ h H locs st0 uc us) (hrest : ∀ v ∈ rest, z_sc h.1 v) (hL : z_LH arr (z_L j) ρ h.1 ls) (hc : uc + mc' ≤ mc) (hs : us + ms' ≤ ms)
    (kk : ∀ (r : Option Value) (h' : zH), Q' r h' → z_V l j d mc ms SC Qf (pc + 3) ls (r.toList ++ rest) h' (uc + mc') (us + ms')) : W p l e R s m args below meth c H locs uc us Z (F0 m pc arr stc) := by
  have hFA : ∀ q, z_AA ρ cy h H.size q → A q := by
    intro q hq
    rcases hq with ⟨k, e1, he⟩ | hq
    · exact hS.2.2.2.1.2 k (q, e1) he
    · exact hC.2.2.2.2.2.2.2.2.1 q (Nat.le_trans hS.2.2.2.2.2.1.1 hq)
  have hSS := hS.2.2.2.2.2.1
  intro T hT X
  obtain ⟨v, st₀, t, T', L, h0, X', hL', e1, e2, ⟨⟨r, h', ρ', hv, hq, hρ, hn, hP1, hD1, ok1, hsc1⟩, hz, hk⟩, stp⟩ := hr T hT X
  cases hv
  rw [h0] at hz hk
  have hsv : z_SV D cy A ρ0 n0 s mc ms ρ' h' T'.heap (locs ++ L) (r.toList ++ rest) (uc + mc') (us + ms') := by
    refine ⟨fun q hq0 => (hρ q (Nat.lt_of_lt_of_le hq0 hS.2.1)).trans (hS.1 q hq0), Nat.le_trans hS.2.1 hn, by rw [e1]; exact hP1, hD1.weaken (fun _ q _ hA => hFA q.1 hA), ok1, ⟨Nat.le_trans hSS.1 (by rw [e1]; exact hz), fun q h1 h2 => ?_, fun q hq0 => ?_⟩, fun w hw => ?_, hc, hs⟩
    · rw [e1, hk q (Nat.lt_of_lt_of_le h1 hSS.1) (fun zz => h2 (hFA q zz))]
      exact hSS.2.1 q h1 h2
    · rcases List.mem_append.mp hq0 with h1 | h1
      · exact hSS.2.2 q h1
      · exact hFA _ (hL' q h1)
    · rcases List.mem_append.mp hw with h1 | h1
      · exact hsc1 w h1
      · exact z_sc_mono hn (hrest w h1)
  obtain ⟨t2, a1, b1⟩ := kk r h' hq p e R s m args below meth c D cy A ρ0 n0 Z hC ρ' T'.heap (locs ++ L) arr hsv (hL.mono hn hρ) T' rfl X'
  refine ⟨t2, stp t2 ?_, b1⟩
  have hst' : (r.map (z_cv ρ')).toList ++ rest.map (z_cv ρ) = (r.toList ++ rest).map (z_cv ρ') := by
    rw [List.map_append, z_cvs_eq hρ hrest]
    cases r <;> rfl
  rw [hst']
  exact a1
theorem z_pre {as : List Value} (hC : z_CT l j d mc ms SC Qf p e R s m args below meth c D cy A ρ0 n0 Z) (hS : z_SV D cy A ρ0 n0 s mc ms ρ h H locs st uc us) : ∀ U : State, U.heap = H → s.WarmedH U.vm → z_Pc D cy ρ h H.size as (as.map (z_cv ρ)).toArray U := by
  intro U hU hW
  have h5 := hC.2.2.2.2.2.2.2.2.2.2.1
  have hEX := (hC.2.2.2.2.2.2.1).rho (ρ' := ρ) (fun q hq => hS.1 q (by omega))
  refine ⟨rfl, by rw [hU], by rw [hU]; exact hS.2.2.1, hS.2.2.2.1.weaken (fun _ _ _ _ => trivial), va_K.moved hW.alike hC.2.2.2.2.2.2.2.1, ?_⟩
  refine hEX.go hW (locs := locs) (by rw [hU]; exact hS.2.2.2.2.2.1) (fun q hq => ?_)
  rcases hq with ⟨k, e1, he⟩ | hq
  · exact hS.2.2.2.1.2 k (q, e1) he
  · exact hC.2.2.2.2.2.2.2.2.1 q (Nat.le_trans hS.2.2.2.2.2.1.1 hq)
end ZCL
theorem z_oi : Cond.instanceMethod objectInit ∈ TW := z_TW_at (i := 120) (by decide +kernel) (by decide +kernel)
theorem z_oc : Cond.code objectInit ⟨#[0xb1]⟩ 1 none ∈ TW := z_TW_at (i := 121) (by decide +kernel) (by decide +kernel)
section ZCR
variable {l : Launch} {j d mc ms : Nat} {SC : Option (Nat × (Nat → Int32))} {Qf : Option Value → zH → Prop} {pc : Nat} {ls : List (Option Value)} {st : List Value} {h : zH} {uc us : Nat}
theorem z_s_new {i c0 : Nat} (hd : decode (z_C j) pc = .ok (.new i, 3)) (hn : (z_O j, i, c0) ∈ z_nl) (hc0 : c0 < 12) (hc : uc + 1 ≤ mc) (hs : us + z_num c0 ≤ ms) (kk : z_V l j d mc ms SC Qf (pc + 3) ls (.ref h.1 :: st) (z_hN h c0 0) (uc + 1) (us + z_num c0)) : z_V l j d mc ms SC Qf pc ls st h uc us := by
  intro p e R s m args below meth c D cy A ρ0 n0 Z hC ρ H locs arr hS hL
  obtain ⟨w1, w2, w3⟩ := z_nl_in hn
  have hR := hC.2.2.2.2.2.2.2.2.2.1
  refine va_new (ci := c0) (fs := z_fs (z_w ρ h.1 H.size) (z_hN h c0 0) h.1 c0) (C := z_own c0) (T := z_ck c0) (N := z_num c0) hC.1 hC.2.1 hC.2.2.2.2.1 (z_cin c0 _ (z_cls hc0)) (z_ty c0) (z_cty c0 _ (z_cls hc0)) hC.2.2.2.1 (hC.2.2.2.2.1 _ w1) (hC.2.2.2.2.1 _ w2) (hC.2.2.2.2.1 _ w3) hC.2.2.2.2.2.2.2.1 hS.2.2.1 hS.2.2.2.1 hS.2.2.2.2.2.1 hC.2.2.2.2.2.2.2.2.1 (z_cls hc0) (z_born 0 hc0) (Nat.le_trans hc hR.2.2.1) (Nat.le_trans hs hR.2.2.2) hd (fun q H1 hP1 hD1 hS1 => ?_)
  refine z_alloc kk hC hS hS.2.2.2.2.2.2.1 hL hc hs q H1 _ ?_ hP1 hD1 hS1
  rw [z_conc_obj (c := c0) (by simp [z_w]) hc0]
  congr 2
  refine List.map_congr_left fun k _ => ?_
  cases z_ty c0 k <;> simp [z_sv, z_w, z_cv]
theorem z_s_newarray {at0 : ArrayType} {n : Int32} (hd : decode (z_C j) pc = .ok (.newarray at0, 2)) (hk : z_atk at0 ≠ 0) (hn : ¬ n < 0) (hN : n.toNatClampNeg ≤ 65536) (hc : uc + 1 ≤ mc) (hs : us + n.toNatClampNeg ≤ ms) (kk : z_V l j d mc ms SC Qf (pc + 2) ls (.ref h.1 :: st) (z_hN h (z_atk at0) n.toNatClampNeg) (uc + 1) (us + n.toNatClampNeg)) : z_V l j d mc ms SC Qf pc ls (.int n :: st) h uc us := by
  intro p e R s m args below meth c D cy A ρ0 n0 Z hC ρ H locs arr hS hL
  have hR := hC.2.2.2.2.2.2.2.2.2.1
  have hK := hC.2.2.2.2.2.2.2.1
  have hst := z_sc_tail hS.2.2.2.2.2.2.1
  cases at0 <;> first | exact absurd rfl hk | skip
  · refine va_newa (ty := .boolean) (a0 := (n.toNatClampNeg, .inl (fun _ => 0))) hC.1 hC.2.1 (hC.2.2.2.2.1 _ (z_arr_in _ (by simp [newarray.typeOf]))) rfl hK hS.2.2.1 hS.2.2.2.1 hS.2.2.2.2.2.1 hC.2.2.2.2.2.2.2.2.1 (fun cA => rfl) hn rfl (by simp [componentBytes]; omega) (Nat.le_trans hc hR.2.2.1) (Nat.le_trans hs hR.2.2.2) hd (fun q cA H1 hK1 hP1 hD1 hS1 => ?_)
    have e1 : cA = cy 15 := Option.some.inj ((hK1.2 5 (cA, .boolean) rfl).2.symm.trans (hK.2 3 (cy 15, .boolean) rfl).2)
    subst e1
    exact z_alloc kk hC hS hst hL hc hs q H1 _ (by rw [z_conc_int (c := 15) (by simp [z_w, z_atk]) (by decide)]; simp [z_w]) hP1 hD1 hS1
  · refine va_newa (ty := .char) (a0 := (n.toNatClampNeg, .inl (fun _ => 0))) hC.1 hC.2.1 (hC.2.2.2.2.1 _ (z_arr_in _ (by simp [newarray.typeOf]))) rfl hK hS.2.2.1 hS.2.2.2.1 hS.2.2.2.2.2.1 hC.2.2.2.2.2.2.2.2.1 (fun cA => rfl) hn rfl (by simp [componentBytes]; omega) (Nat.le_trans hc hR.2.2.1) (Nat.le_trans hs hR.2.2.2) hd (fun q cA H1 hK1 hP1 hD1 hS1 => ?_)
    have e1 : cA = cy 12 := Option.some.inj ((hK1.2 5 (cA, .char) rfl).2.symm.trans (hK.2 0 (cy 12, .char) rfl).2)
    subst e1
    exact z_alloc kk hC hS hst hL hc hs q H1 _ (by rw [z_conc_int (c := 12) (by simp [z_w, z_atk]) (by decide)]; simp [z_w]) hP1 hD1 hS1
  · refine va_newa (ty := .int) (a0 := (n.toNatClampNeg, .inl (fun _ => 0))) hC.1 hC.2.1 (hC.2.2.2.2.1 _ (z_arr_in _ (by simp [newarray.typeOf]))) rfl hK hS.2.2.1 hS.2.2.2.1 hS.2.2.2.2.2.1 hC.2.2.2.2.2.2.2.2.1 (fun cA => rfl) hn rfl (by simp [componentBytes]; omega) (Nat.le_trans hc hR.2.2.1) (Nat.le_trans hs hR.2.2.2) hd (fun q cA H1 hK1 hP1 hD1 hS1 => ?_)
    have e1 : cA = cy 13 := Option.some.inj ((hK1.2 5 (cA, .int) rfl).2.symm.trans (hK.2 1 (cy 13, .int) rfl).2)
    subst e1
    exact z_alloc kk hC hS hst hL hc hs q H1 _ (by rw [z_conc_int (c := 13) (by simp [z_w, z_atk]) (by decide)]; simp [z_w]) hP1 hD1 hS1
  · refine va_newa (ty := .long) (a0 := (n.toNatClampNeg, .inr (.inl (fun _ => 0)))) hC.1 hC.2.1 (hC.2.2.2.2.1 _ (z_arr_in _ (by simp [newarray.typeOf]))) rfl hK hS.2.2.1 hS.2.2.2.1 hS.2.2.2.2.2.1 hC.2.2.2.2.2.2.2.2.1 (fun cA => rfl) hn rfl (by simp [componentBytes]; omega) (Nat.le_trans hc hR.2.2.1) (Nat.le_trans hs hR.2.2.2) hd (fun q cA H1 hK1 hP1 hD1 hS1 => ?_)
    have e1 : cA = cy 14 := Option.some.inj ((hK1.2 5 (cA, .long) rfl).2.symm.trans (hK.2 2 (cy 14, .long) rfl).2)
    subst e1
    exact z_alloc kk hC hS hst hL hc hs q H1 _ (by rw [z_conc_long (by simp [z_w, z_atk])]; simp [z_w]) hP1 hD1 hS1
theorem z_s_objInit {i a : Nat} (hd : decode (z_C j) pc = .ok (.invokespecial i, 3)) (hl : (z_O j, i, 999) ∈ z_ml) (h1 : 1 ≤ d) (hrs : (st.map (fun v => v.category)).sum ≤ 8) (kk : z_V l j d mc ms SC Qf (pc + 3) ls st h uc us) : z_V l j d mc ms SC Qf pc ls (.ref a :: st) h uc us := by
  intro p e R s m args below meth c D cy A ρ0 n0 Z hC ρ H locs arr hS hL
  have hR := hC.2.2.2.2.2.2.2.2.2.1
  have hsum : ((st.map (z_cv ρ)).map fun v => v.category).sum ≤ 8 := by
    rw [List.map_map, show (fun v => v.category) ∘ z_cv ρ = fun v => v.category from funext (z_cv_cat ρ)]
    exact hrs
  refine W.objInit (a := ρ a) (rest := st.map (z_cv ρ)) hC.1 hC.2.1 hC.2.2.2.1 (hC.2.2.2.2.1 _ (z_ml_in hl)) (hC.2.2.2.2.1 _ z_oi) (hC.2.2.2.2.1 _ z_oc) rfl (by rw [hC.2.2.1]; exact hL.1) rfl hd (by omega) (by show 2 * 0 + _ + 12 ≤ _; omega) ?_
  exact kk p e R s m args below meth c D cy A ρ0 n0 Z hC ρ H locs arr (hS.st (z_sc_tail hS.2.2.2.2.2.2.1)) hL
theorem z_goodV {own : String} {idx : Nat} {j' : Nat} (hj : j' < 258) (hk : z_Kd j' = 1) (hl : Cond.methodLink own idx (z_y j') ∈ TW) : GoodIn TW (wsV own idx (z_y j').cls (z_y j') (z_WS j')) := by
  obtain ⟨f1, f2, f3, f4, f5, -⟩ := z_mf hj
  intro w hw
  have hm : w ∈ TW := by
    simp only [wsV, z_WS, List.cons_append, List.nil_append, List.mem_cons] at hw
    rcases hw with rfl | rfl | rfl | rfl | rfl | hw
    · exact hl
    · exact f4 (by omega)
    · exact f5 hk
    · exact f2
    · exact f1
    · exact hw
  exact ⟨hm, good_of_word (z_TW_good w hm)⟩
theorem z_goodW {j' : Nat} (hj : j' < 258) : GoodIn TW (z_WS j') := by
  intro w hw
  have hm : w ∈ TW := by
    rcases List.mem_cons.mp hw with rfl | hw
    · exact (z_mf hj).1
    · exact hw
  exact ⟨hm, good_of_word (z_TW_good w hm)⟩
def z_cokB (o i j' : Nat) : Bool := decide (j' < 258) && (decide ((o, i, j') ∈ z_ml) || decide ((o, i, j') ∈ z_mn))
theorem z_cok {o i j' : Nat} (h : z_cokB o i j' = true) : j' < 258 ∧ ((o, i, j') ∈ z_ml ∨ (o, i, j') ∈ z_mn) := by
  simpa only [z_cokB, Bool.and_eq_true, Bool.or_eq_true, decide_eq_true_eq] using h
theorem z_sum {ρ : Nat → Nat} {st : List Value} (h : (st.map (fun v => v.category)).sum ≤ 8) : ((st.map (z_cv ρ)).map fun v => v.category).sum ≤ 8 := by
  rw [List.map_map, show (fun v => v.category) ∘ z_cv ρ = fun v => v.category from funext (z_cv_cat ρ)]
  exact h
theorem z_s_invV {i j' b d' mc' ms' : Nat} {as rest : List Value} {Q' : Option Value → zH → Prop} (hd : decode (z_C j) pc = .ok (.invokevirtual i, 3)) (hl : z_cokB (z_O j) i j' = true) (hkd : z_Kd j' = 1) (hk : h.2.1 b = z_O j') (hO : z_O j' < 12) (hn : as.length = z_An j') (hrs : (rest.map (fun v => v.category)).sum ≤ 8) (hdd : d' < d) (hct : z_Ctr l d' j' (.ref b :: as) h mc' ms' Q') (hc : uc + mc' ≤ mc) (hs : us + ms' ≤ ms)
    (kk : ∀ (r : Option Value) (h' : zH), Q' r h' → z_V l j d mc ms SC Qf (pc + 3) ls (r.toList ++ rest) h' (uc + mc') (us + ms')) : z_V l j d mc ms SC Qf pc ls (as.reverse ++ .ref b :: rest) h uc us := by
  intro p e R s m args below meth c D cy A ρ0 n0 Z hC ρ H locs arr hS hL
  obtain ⟨hj, hl⟩ := z_cok hl
  obtain ⟨f1, f2, f3, f4, f5, f6, f7, f8, f9⟩ := z_mf hj
  have hR := hC.2.2.2.2.2.2.2.2.2.1
  have hsc := hS.2.2.2.2.2.2.1
  have hasc : ∀ v ∈ Value.ref b :: as, z_sc h.1 v := fun v hv => hsc v (by rcases List.mem_cons.mp hv with rfl | hv <;> simp [*])
  have hrest : ∀ v ∈ rest, z_sc h.1 v := fun v hv => hsc v (by simp [hv])
  have hM := hct hS.2.2.2.2.1 hasc D cy ρ H.size
  have hb : b < h.1 := hasc (.ref b) List.mem_cons_self
  have hget := z_ws_get (ρ := ρ) (cy := cy) (z_ge5 hS.2.2.2.2.1 hk (by omega)) hb
  rw [z_conc_obj hk hO] at hget
  have hrecv : ∃ cellB : Cell, H[ρ b]? = some cellB ∧ cellB.vm.isStatics = false ∧ s.vm.findClass (z_y j').cls = some cellB.cls := by
    rw [f8]
    exact va_recv (q := (z_own (z_O j'), z_ck (z_O j'), z_num (z_O j'))) hC.2.2.2.2.2.2.2.1 hS.2.2.1 (z_cls hO) hget
  have hstk : (as.reverse ++ .ref b :: rest).map (z_cv ρ) = (as.map (z_cv ρ)).reverse ++ .ref (ρ b) :: rest.map (z_cv ρ) := by simp [z_cv]
  rw [hstk]
  have hpre := z_pre (as := .ref b :: as) hC hS
  have hR2 : (z_rm d' mc' ms').frames + 1 ≤ R.frames ∧ 8 + (z_L j' + 11) + (z_rm d' mc' ms').locals ≤ R.locals := ⟨by show d' + 1 ≤ _; omega, by show 8 + (z_L j' + 11) + 100 * d' ≤ _; omega⟩
  have hfix : CallFix p m c (z_C j) (z_L j) s args TW (z_own (z_O j)) := ⟨hC.1, hC.2.1, hC.2.2.1, hC.2.2.2.1, hC.2.2.2.2.1⟩
  rcases hl with hl | hl
  · exact z_after (va_runV (C := (z_y j').cls) (b := ρ b) (As := as.map (z_cv ρ)) (rest := rest.map (z_cv ρ)) (g := F0 m pc arr _) hfix hM (cwV (z_An j') hC.2.2.2.2.1 (z_goodV hj hkd (z_ml_in hl)) rfl rfl rfl ⟨rfl, f6⟩ hR2) ⟨z_blind, hrecv, hpre⟩ rfl (by simp [hn]) hL.1 rfl (lv_room (z_sum hrs)) hd ⟨Nat.le_trans hc hR.2.2.1, Nat.le_trans hs hR.2.2.2⟩) hC hS hrest hL hc hs kk
  · exact z_after (va_runVN (C := (z_y j').cls) (b := ρ b) (As := as.map (z_cv ρ)) (rest := rest.map (z_cv ρ)) (g := F0 m pc arr _) hfix hM ⟨va_cnB (z_An j') hC.2.2.2.2.1 (z_goodW hj) rfl rfl rfl (hC.2.2.2.2.2.2.1.1 _ (z_mn_in hl)) (hC.2.2.2.2.1 _ f2) f6 hR2, hC.2.2.2.2.1 _ (f4 (by omega)), hC.2.2.2.2.1 _ (f5 hkd)⟩ ⟨z_blind, hrecv, hpre⟩ rfl (by simp [hn]) hL.1 rfl (lv_room (z_sum hrs)) hd ⟨Nat.le_trans hc hR.2.2.1, Nat.le_trans hs hR.2.2.2⟩) hC hS hrest hL hc hs kk
theorem z_s_invS {i j' d' mc' ms' : Nat} {as rest : List Value} {Q' : Option Value → zH → Prop} (hd : decode (z_C j) pc = .ok (.invokestatic i, 3)) (hl : z_cokB (z_O j) i j' = true) (hkd : z_Kd j' = 0) (hn : as.length = z_An j') (hrs : (rest.map (fun v => v.category)).sum ≤ 8) (hdd : d' < d) (hct : z_Ctr l d' j' as h mc' ms' Q') (hc : uc + mc' ≤ mc) (hs : us + ms' ≤ ms)
    (kk : ∀ (r : Option Value) (h' : zH), Q' r h' → z_V l j d mc ms SC Qf (pc + 3) ls (r.toList ++ rest) h' (uc + mc') (us + ms')) : z_V l j d mc ms SC Qf pc ls (as.reverse ++ rest) h uc us := by
  intro p e R s m args below meth c D cy A ρ0 n0 Z hC ρ H locs arr hS hL
  obtain ⟨hj, hl⟩ := z_cok hl
  obtain ⟨f1, f2, f3, f4, f5, f6, f7, f8, f9⟩ := z_mf hj
  have hR := hC.2.2.2.2.2.2.2.2.2.1
  have hsc := hS.2.2.2.2.2.2.1
  have hasc : ∀ v ∈ as, z_sc h.1 v := fun v hv => hsc v (by simp [hv])
  have hrest : ∀ v ∈ rest, z_sc h.1 v := fun v hv => hsc v (by simp [hv])
  have hM := hct hS.2.2.2.2.1 hasc D cy ρ H.size
  have hstk : (as.reverse ++ rest).map (z_cv ρ) = (as.map (z_cv ρ)).reverse ++ rest.map (z_cv ρ) := by simp
  rw [hstk]
  have hpre := z_pre (as := as) hC hS
  have hR2 : (z_rm d' mc' ms').frames + 1 ≤ R.frames ∧ 8 + (z_L j' + 11) + (z_rm d' mc' ms').locals ≤ R.locals := ⟨by show d' + 1 ≤ _; omega, by show 8 + (z_L j' + 11) + 100 * d' ≤ _; omega⟩
  have hfix : CallFix p m c (z_C j) (z_L j) s args TW (z_own (z_O j)) := ⟨hC.1, hC.2.1, hC.2.2.1, hC.2.2.2.1, hC.2.2.2.2.1⟩
  rcases hl with hl | hl
  · exact z_after (va_runS (As := as.map (z_cv ρ)) (rest := rest.map (z_cv ρ)) (g := F0 m pc arr _) hfix hM ⟨callB_of (z_An j') hC.2.2.2.2.1 (z_goodW hj) rfl rfl rfl (hC.2.2.2.2.1 _ f2) (hC.2.2.2.2.1 _ (z_ml_in hl)) f6 hR2, hC.2.2.2.2.1 _ (f3 hkd)⟩ ⟨z_blind, hpre⟩ rfl (by simp [hn]) hL.1 rfl (lv_room (z_sum hrs)) hd ⟨Nat.le_trans hc hR.2.2.1, Nat.le_trans hs hR.2.2.2⟩) hC hS hrest hL hc hs kk
  · exact z_after (va_runSN (As := as.map (z_cv ρ)) (rest := rest.map (z_cv ρ)) (g := F0 m pc arr _) hfix hM ⟨va_cnB (z_An j') hC.2.2.2.2.1 (z_goodW hj) rfl rfl rfl (hC.2.2.2.2.2.2.1.1 _ (z_mn_in hl)) (hC.2.2.2.2.1 _ f2) f6 hR2, hC.2.2.2.2.1 _ (f3 hkd), trivial⟩ ⟨z_blind, hpre⟩ rfl (by simp [hn]) hL.1 rfl (lv_room (z_sum hrs)) hd ⟨Nat.le_trans hc hR.2.2.1, Nat.le_trans hs hR.2.2.2⟩) hC hS hrest hL hc hs kk
theorem z_s_invI {i j' b d' mc' ms' : Nat} {as rest : List Value} {Q' : Option Value → zH → Prop} (hd : decode (z_C j) pc = .ok (.invokespecial i, 3)) (hl : z_cokB (z_O j) i j' = true) (hkd : z_Kd j' = 2 ∧ (z_y j').name = "<init>" ∧ z_R j' = none) (hn : as.length = z_An j') (hrs : (rest.map (fun v => v.category)).sum ≤ 8) (hdd : d' < d) (hct : z_Ctr l d' j' (.ref b :: as) h mc' ms' Q') (hc : uc + mc' ≤ mc) (hs : us + ms' ≤ ms)
    (kk : ∀ (r : Option Value) (h' : zH), Q' r h' → z_V l j d mc ms SC Qf (pc + 3) ls (r.toList ++ rest) h' (uc + mc') (us + ms')) : z_V l j d mc ms SC Qf pc ls (as.reverse ++ .ref b :: rest) h uc us := by
  intro p e R s m args below meth c D cy A ρ0 n0 Z hC ρ H locs arr hS hL
  obtain ⟨hj, hl⟩ := z_cok hl
  obtain ⟨f1, f2, f3, f4, f5, f6, f7, f8, f9⟩ := z_mf hj
  have hR := hC.2.2.2.2.2.2.2.2.2.1
  have hsc := hS.2.2.2.2.2.2.1
  have hasc : ∀ v ∈ Value.ref b :: as, z_sc h.1 v := fun v hv => hsc v (by rcases List.mem_cons.mp hv with rfl | hv <;> simp [*])
  have hrest : ∀ v ∈ rest, z_sc h.1 v := fun v hv => hsc v (by simp [hv])
  have hM := hct hS.2.2.2.2.1 hasc D cy ρ H.size
  have hstk : (as.reverse ++ .ref b :: rest).map (z_cv ρ) = (as.map (z_cv ρ)).reverse ++ .ref (ρ b) :: rest.map (z_cv ρ) := by simp [z_cv]
  rw [hstk]
  have hpre := z_pre (as := .ref b :: as) hC hS
  have hR2 : (z_rm d' mc' ms').frames + 1 ≤ R.frames ∧ 8 + (z_L j' + 11) + (z_rm d' mc' ms').locals ≤ R.locals := ⟨by show d' + 1 ≤ _; omega, by show 8 + (z_L j' + 11) + 100 * d' ≤ _; omega⟩
  have hfix : CallFix p m c (z_C j) (z_L j) s args TW (z_own (z_O j)) := ⟨hC.1, hC.2.1, hC.2.2.1, hC.2.2.2.1, hC.2.2.2.2.1⟩
  have hws : z_WS j' = Cond.code (z_y j') (z_C j') (z_L j') none :: TW := by rw [z_WS, hkd.2.2]
  rcases hl with hl | hl
  · exact z_after (va_runI (b := ρ b) (As := as.map (z_cv ρ)) (rest := rest.map (z_cv ρ)) (g := F0 m pc arr _) hfix hM ⟨callB_of (z_An j') hC.2.2.2.2.1 (z_goodW hj) hws rfl rfl (hC.2.2.2.2.1 _ f2) (hC.2.2.2.2.1 _ (z_ml_in hl)) f6 hR2, hkd.2.1, hC.2.2.2.2.1 _ (f4 (by omega))⟩ ⟨z_blind, hpre⟩ rfl (by simp [hn]) hL.1 rfl (lv_room (z_sum hrs)) hd ⟨Nat.le_trans hc hR.2.2.1, Nat.le_trans hs hR.2.2.2⟩) hC hS hrest hL hc hs kk
  · exact z_after (va_runIN (b := ρ b) (As := as.map (z_cv ρ)) (rest := rest.map (z_cv ρ)) (g := F0 m pc arr _) hfix hM ⟨va_cnB (z_An j') hC.2.2.2.2.1 (z_goodW hj) hws rfl rfl (hC.2.2.2.2.2.2.1.1 _ (z_mn_in hl)) (hC.2.2.2.2.1 _ f2) f6 hR2, hkd.2.1, hC.2.2.2.2.1 _ (f4 (by omega))⟩ ⟨z_blind, hpre⟩ rfl (by simp [hn]) hL.1 rfl (lv_room (z_sum hrs)) hd ⟨Nat.le_trans hc hR.2.2.1, Nat.le_trans hs hR.2.2.2⟩) hC hS hrest hL hc hs kk
end ZCR
