/-! Texts: the JDK methods that they reach; rows for a text -/
/-- a method that changes nothing -/
def z_pm (l : Launch) (j d : Nat) (as : List Value) (B : State → Prop) (v : Option Value) : Prop := Met l (z_y j) (z_WS j) (z_rm d 0 0) (va_Pc as B) (fun _ st o t => o = .returned v ∧ t.heap = st.heap) 0 0 (fun _ => False)
theorem z_pm_call {p : Program} {l : Launch} {e : Env} {R : Room} {s : State} {m : MethodId} {args : Array Value} {below : List Frame} {meth : Method} {c : Code} {H : Heap} {locs : List Loc} {uc us : Nat} {Z : State → Prop} {pc : Nat} {arr : Array Slot} {j j' d' i : Nat} {as rest : List Value} {B : State → Prop} {v : Option Value}
    (hex : p.tables.exec = Jvm.exec) (hb : c.code = z_C j) (hml : c.maxLocals = z_L j) (hown : s.vm.findClass (z_own (z_O j)) = some m.cls) (hts : ∀ w ∈ TW, w.before args s = true) (hsz : arr.size = z_L j)
    (hd : decode (z_C j) pc = .ok (.invokestatic i, 3)) (hj : j' < 258) (hl : (z_O j, i, j') ∈ z_ml) (hkd : z_Kd j' = 0) (hn : as.length = z_An j') (hrs : (rest.map (fun v => v.category)).sum ≤ 8)
    (hM : z_pm l j' d' as B v) (hbl : ∀ U g mk a, B U → B (State.calling U g mk a)) (hB : ∀ U : State, U.heap = H → s.WarmedH U.vm → B U) (hR : d' + 1 ≤ R.frames ∧ 8 + (z_L j' + 11) + 100 * d' ≤ R.locals) (hu : uc ≤ R.cells ∧ us ≤ R.slots)
    (kk : W p l e R s m args below meth c H locs uc us Z (F0 m (pc + 3) arr (v.toList ++ rest))) : W p l e R s m args below meth c H locs uc us Z (F0 m pc arr (as.reverse ++ rest)) := by
  obtain ⟨f1, f2, f3, f4, f5, f6, f7, f8, f9⟩ := z_mf hj
  have hfix : CallFix p m c (z_C j) (z_L j) s args TW (z_own (z_O j)) := ⟨hex, hb, hml, hown, hts⟩
  have hbl' : FrameBlind (va_Pc as B) := fun a U g mk hp => ⟨hp.1, hbl U g mk a hp.2⟩
  have hr := va_runS (p := p) (e := e) (below := below) (meth := meth) (H := H) (locs := locs) (cells := uc) (slots := us) (As := as) (rest := rest) (g := F0 m pc arr (as.reverse ++ rest)) hfix hM ⟨callB_of (z_An j') hts (z_goodW hj) rfl rfl rfl (hts _ f2) (hts _ (z_ml_in hl)) f6 ⟨hR.1, hR.2⟩, hts _ (f3 hkd)⟩ ⟨hbl', fun U hU hW => ⟨rfl, hB U hU hW⟩⟩ rfl hn hsz rfl (lv_room hrs) hd ⟨hu.1, hu.2⟩
  intro T hT X
  obtain ⟨v', st₀, t, T', L, h0, X', hL, e1, e2, ⟨hv, hh⟩, stp⟩ := hr T hT X
  cases hv
  have hLn : L = [] := by
    cases L with
    | nil => rfl
    | cons q L => exact (hL q List.mem_cons_self).elim
  subst hLn
  rw [List.append_nil] at X'
  obtain ⟨t2, a1, b1⟩ := kk T' (by rw [e1, hh, h0]) X'
  exact ⟨t2, stp t2 a1, b1⟩
theorem z_fl_va : Cond.fieldLink "java/lang/String" 9 "java/lang/String" "value" "[B" ∈ TW := z_TW_at (i := 1743) (by decide +kernel) (by decide +kernel)
theorem z_fl_co : Cond.fieldLink "java/lang/String" 15 "java/lang/String" "coder" "B" ∈ TW := z_TW_at (i := 1744) (by decide +kernel) (by decide +kernel)
theorem z_fl_cs : Cond.fieldLink "java/lang/String" 38 "java/lang/String" "COMPACT_STRINGS" "Z" ∈ TW := z_TW_at (i := 666) (by decide +kernel) (by decide +kernel)
theorem z_fl_si : Cond.fieldLink "java/lang/String" 1053 "jdk/internal/util/Preconditions" "SIOOBE_FORMATTER" "Ljava/util/function/BiFunction;" ∈ TW := z_TW_at (i := 682) (by decide +kernel) (by decide +kernel)
section STR
variable {l : Launch}
/-- Preconditions.checkIndex -/
theorem z_p257 {i n : Nat} (hin : i < n) (hn : n < 2 ^ 31) (v : Value) (hv : v.category = 1) (B : State → Prop) : z_pm l 257 0 [.int (nI i), .int (nI n), v] B (some (.int (nI i))) := by
  refine Met.ofW (cc := z_C 257) (maxL := z_L 257) (ret := z_R 257) (by decide +kernel) rfl ?_
  intro p e s m args below meth c s₁ hB hml hp
  obtain ⟨rfl, -⟩ := hp
  have hle : (lg_sl [.int (nI i), .int (nI n), v]).length ≤ z_L 257 := by
    have : z_L 257 = 3 := by decide +kernel
    rw [this]
    cases v <;> simp [lg_sl, Value.category] at hv ⊢
  have hl := lv_entry [.int (nI i), .int (nI n), v] (n := z_L 257) hle
  rw [lg_entry_eq]
  have g0 := hl.2.2 (0, .int (nI i)) (by simp [lv_args])
  have g1 := hl.2.2 (1, .int (nI n)) (by simp [lv_args, Value.category])
  refine lv_iload_n hB.exec hB.bytes (show decode (z_C 257) 0 = .ok (.iload_n 0, 1) by decide +kernel) rfl g0 ?_
  refine lv_if_lt hB.exec hB.bytes (show decode (z_C 257) 1 = .ok (.ifCond .lt 8, 3) by decide +kernel) (tgt := 9) (by decide) (fun q => absurd q (nI_pos (by omega))) (fun _ => ?_)
  refine lv_iload_n hB.exec hB.bytes (show decode (z_C 257) 4 = .ok (.iload_n 0, 1) by decide +kernel) rfl g0 ?_
  refine lv_iload_n hB.exec hB.bytes (show decode (z_C 257) 5 = .ok (.iload_n 1, 1) by decide +kernel) rfl g1 ?_
  refine lv_icmp_lt hB.exec hB.bytes (show decode (z_C 257) 6 = .ok (.if_icmp .lt 10, 3) by decide +kernel) (tgt := 16) (by decide) (fun _ => ?_) (fun q => absurd (nI_lt hin hn) q)
  refine lv_iload_n hB.exec hB.bytes (show decode (z_C 257) 16 = .ok (.iload_n 0, 1) by decide +kernel) rfl g0 ?_
  exact W.zret hB.exec hB.bytes (hB.returns.trans (show z_R 257 = some .int by decide +kernel)) rfl (fun t ht _ => ⟨rfl, ht⟩) (fun q hq => by cases hq) (show decode (z_C 257) 17 = .ok (.ireturn, 1) by decide +kernel) hB.notSynchronized
/-- String.checkIndex -/
theorem z_p250 {i n : Nat} (hin : i < n) (hn : n < 2 ^ 31) : z_pm l 250 1 [.int (nI i), .int (nI n)] (fun U => va_Zq "jdk/internal/util/Preconditions" "SIOOBE_FORMATTER" "Ljava/util/function/BiFunction;" (fun _ => False) U U.heap) none := by
  refine Met.ofW (cc := z_C 250) (maxL := z_L 250) (ret := z_R 250) (by decide +kernel) rfl ?_
  intro p e s m args below meth c s₁ hB hml hp
  obtain ⟨rfl, hZ⟩ := hp
  have hts := atoms_spec (ws := z_WS 250) hB.pre
  have htw : ∀ w ∈ TW, w.before ([.int (nI i), .int (nI n)] : List Value).toArray s = true := fun w hw => hts w (List.mem_cons_of_mem _ hw)
  have hown : s.vm.findClass (z_own (z_O 250)) = some m.cls := by
    have := findClass_of_methodNamed hB.named
    rw [(z_mf (j := 250) (by decide)).2.2.2.2.2.2.2.1] at this
    exact this
  have hl := lv_entry [.int (nI i), .int (nI n)] (n := z_L 250) (show (2 : Nat) ≤ z_L 250 by decide +kernel)
  rw [lg_entry_eq]
  have g0 := hl.2.2 (0, .int (nI i)) (by simp [lv_args])
  have g1 := hl.2.2 (1, .int (nI n)) (by simp [lv_args, Value.category])
  refine lv_iload_n hB.exec hB.bytes (show decode (z_C 250) 0 = .ok (.iload_n 0, 1) by decide +kernel) rfl g0 ?_
  refine lv_iload_n hB.exec hB.bytes (show decode (z_C 250) 1 = .ok (.iload_n 1, 1) by decide +kernel) rfl g1 ?_
  have go : ∀ v : Value, v.category = 1 → va_Z "jdk/internal/util/Preconditions" "SIOOBE_FORMATTER" "Ljava/util/function/BiFunction;" v (fun _ => False) s s.heap → _ := fun v hv hz =>
    va_gets (p := p) (l := l) (e := e) (R := (headSpec (z_WS 250) (z_rm 1 0 0)).room) (args := ([.int (nI i), .int (nI n)] : List Value).toArray) (below := below) (meth := meth) (m := m) (c := c) (H := s.heap) (locs := []) (cells := 0) (slots := 0) (pc := 2) (ls := _) (rest := [.int (nI n), .int (nI i)]) (Q := MQ below (fun _ st o t => o = .returned none ∧ t.heap = st.heap) ([.int (nI i), .int (nI n)] : List Value).toArray s 0 0 (fun _ => False)) hB.exec hB.bytes hz va_S.rf hown (htw _ z_fl_si) (fun _ h => h) (show decode (z_C 250) 2 = .ok (.getstatic 1053, 3) by decide +kernel)
      (z_pm_call (as := [.int (nI i), .int (nI n), v]) (rest := []) (j := 250) (j' := 257) (d' := 0) (B := fun _ => True) (v := some (.int (nI i))) hB.exec hB.bytes hml hown htw hl.1 (show decode (z_C 250) 5 = .ok (.invokestatic 1059, 3) by decide +kernel) (by decide) (by decide +kernel) (by decide +kernel) (show (3 : Nat) = z_An 257 by decide +kernel) (by decide) (z_p257 hin hn v hv _) (fun _ _ _ _ h => h) (fun _ _ _ => trivial) ⟨Nat.le_refl _, by decide +kernel⟩ ⟨Nat.zero_le _, Nat.zero_le _⟩
        (lv_pop hB.exec hB.bytes (show decode (z_C 250) 8 = .ok (.pop, 1) by decide +kernel) rfl (W.vret hB.exec hB.bytes (hB.returns.trans (show z_R 250 = none by decide +kernel)) (fun t ht _ => ⟨rfl, ht⟩) (fun q hq => by cases hq) (show decode (z_C 250) 9 = .ok (.return_, 1) by decide +kernel) hB.notSynchronized)))
  rcases hZ with hz | ⟨t, hz⟩
  · exact go .null rfl hz
  · exact go (.ref t) rfl hz
/-- StringLatin1.charAt -/
theorem z_p251 {i n b : Nat} {f : Nat → Int32} (hin : i < n) (hn : n < 2 ^ 31) {v : Int32} (hv : ((f i &&& 255).toUInt32 % 65536).toInt32 = v) (hnar : narrow .char (.int v) = .int v) : z_pm l 251 2 [.ref b, .int (nI i)] (fun U => va_T .byte b n (fun j => .int (f j)) (fun _ => False) U U.heap ∧ va_Zq "jdk/internal/util/Preconditions" "SIOOBE_FORMATTER" "Ljava/util/function/BiFunction;" (fun _ => False) U U.heap) (some (.int v)) := by
  refine Met.ofW (cc := z_C 251) (maxL := z_L 251) (ret := z_R 251) (by decide +kernel) rfl ?_
  intro p e s m args below meth c s₁ hB hml hp
  obtain ⟨rfl, hT, hZ⟩ := hp
  have hts := atoms_spec (ws := z_WS 251) hB.pre
  have htw : ∀ w ∈ TW, w.before ([.ref b, .int (nI i)] : List Value).toArray s = true := fun w hw => hts w (List.mem_cons_of_mem _ hw)
  have hown : s.vm.findClass (z_own (z_O 251)) = some m.cls := by
    have := findClass_of_methodNamed hB.named
    rw [(z_mf (j := 251) (by decide)).2.2.2.2.2.2.2.1] at this
    exact this
  have hl := lv_entry [.ref b, .int (nI i)] (n := z_L 251) (show (2 : Nat) ≤ z_L 251 by decide +kernel)
  rw [lg_entry_eq]
  have g0 := hl.2.2 (0, .ref b) (by simp [lv_args])
  have g1 := hl.2.2 (1, .int (nI i)) (by simp [lv_args, Value.category])
  refine lv_iload_n hB.exec hB.bytes (show decode (z_C 251) 0 = .ok (.iload_n 1, 1) by decide +kernel) rfl g1 ?_
  refine lv_aload_n hB.exec hB.bytes (show decode (z_C 251) 1 = .ok (.aload_n 0, 1) by decide +kernel) rfl g0 ?_
  refine va_tlen (v := nI n) hB.exec hB.bytes hT va_S.rf rfl (show decode (z_C 251) 2 = .ok (.arraylength, 1) by decide +kernel) ?_
  refine z_pm_call (as := [.int (nI i), .int (nI n)]) (rest := []) (j := 251) (j' := 250) (d' := 1) (v := none) hB.exec hB.bytes hml hown htw hl.1 (show decode (z_C 251) 3 = .ok (.invokestatic 9, 3) by decide +kernel) (by decide) (by decide +kernel) (by decide +kernel) (show (2 : Nat) = z_An 250 by decide +kernel) (by decide) (z_p250 hin hn) (fun U g mk a h => va_Zq.moved (u := U) (U := U.calling g mk a) (Vm.Alike.refl U.vm) h) (fun U hU hW => by rw [hU]; exact va_Zq.moved hW.alike hZ) ⟨Nat.le_refl _, by decide +kernel⟩ ⟨Nat.zero_le _, Nat.zero_le _⟩ ?_
  refine lv_aload_n hB.exec hB.bytes (show decode (z_C 251) 6 = .ok (.aload_n 0, 1) by decide +kernel) rfl g0 ?_
  refine lv_iload_n hB.exec hB.bytes (show decode (z_C 251) 7 = .ok (.iload_n 1, 1) by decide +kernel) rfl g1 ?_
  refine va_tb (v := .int (f i)) hB.exec hB.bytes hT va_S.rf (vp_in_nI hin hn) (by rw [nI_clamp (by omega)]) (show decode (z_C 251) 8 = .ok (.baload, 1) by decide +kernel) ?_
  refine lv_sipush hB.exec hB.bytes (show decode (z_C 251) 9 = .ok (.sipush 255, 3) by decide +kernel) (show (Int16.ofInt 255).toInt32 = (255 : Int32) by decide) ?_
  refine lv_iand hB.exec hB.bytes (show decode (z_C 251) 12 = .ok (.iand, 1) by decide +kernel) ?_
  refine lv_i2c hB.exec hB.bytes (show decode (z_C 251) 13 = .ok (.i2c, 1) by decide +kernel) hv ?_
  exact W.zret hB.exec hB.bytes (hB.returns.trans (show z_R 251 = some .char by decide +kernel)) hnar (fun t ht _ => ⟨rfl, ht⟩) (fun q hq => by cases hq) (show decode (z_C 251) 14 = .ok (.ireturn, 1) by decide +kernel) hB.notSynchronized
end STR
