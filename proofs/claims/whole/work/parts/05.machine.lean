/-! THE PURE MACHINE. Places instead of addresses: place 0 is the script, 1 to 4 the four texts, the rest are this claim's own cells.
    A heap: how many places, the kind of each, the length of each (arrays), its ints, its longs, its references. -/
abbrev zH : Type := Nat × (Nat → Nat) × (Nat → Nat) × (Nat → Nat → Int32) × (Nat → Nat → Int64) × (Nat → Nat → Value)
def z_C (j : Nat) : ByteArray := ((z_mt[j]?).map (fun r => r.2.1)).getD ⟨#[]⟩
def z_L (j : Nat) : Nat := ((z_mt[j]?).map (fun r => r.2.2.1)).getD 0
def z_R (j : Nat) : Option FieldType := ((z_mt[j]?).map (fun r => r.2.2.2.1)).getD none
def z_O (j : Nat) : Nat := ((z_mt[j]?).map (fun r => r.2.2.2.2.1)).getD 0
def z_Kd (j : Nat) : Nat := ((z_mt[j]?).map (fun r => r.2.2.2.2.2.1)).getD 0
def z_An (j : Nat) : Nat := ((z_mt[j]?).map (fun r => r.2.2.2.2.2.2)).getD 0
def z_cv (ρ : Nat → Nat) : Value → Value
  | .ref a => .ref (ρ a)
  | v => v
def z_rfo (ρ : Nat → Nat) : Value → Option Nat
  | .ref a => some (ρ a)
  | _ => none
def z_sv (h : zH) (p k : Nat) : FieldType → Value
  | .long => .long (h.2.2.2.2.1 p k)
  | .object _ => h.2.2.2.2.2 p k
  | .array _ => h.2.2.2.2.2 p k
  | _ => .int (h.2.2.2.1 p k)
def z_fs (ρ : Nat → Nat) (h : zH) (p c : Nat) : List Value := (List.range (z_num c)).map (fun k => z_cv ρ (z_sv h p k (z_ty c k)))
def z_conc (ρ : Nat → Nat) (cy : Nat → ClassId) (h : zH) (p : Nat) : va_E :=
  if h.2.1 p < 12 then .inr (h.2.1 p, z_fs ρ h p (h.2.1 p))
  else .inl (cy (h.2.1 p), h.2.2.1 p, if h.2.1 p = 14 then .inr (.inl (h.2.2.2.2.1 p)) else if h.2.1 p = 16 then .inr (.inr (.inr (.inr (fun i => z_rfo ρ (h.2.2.2.2.2 p i))))) else .inl (h.2.2.2.1 p))
def z_ws (ρ : Nat → Nat) (cy : Nat → ClassId) (h : zH) : va_W := (List.range (h.1 - 5)).map (fun i => (ρ (i + 5), z_conc ρ cy h (i + 5)))
def z_tys (cy : Nat → ClassId) : List (ClassId × FieldType) := [(cy 12, .char), (cy 13, .int), (cy 14, .long), (cy 15, .boolean), (cy 16, .object RX3)]
def z_ok (h : zH) : Prop := 5 ≤ h.1 ∧ (∀ p, p < 5 → h.2.1 p = 99) ∧ ∀ p k, h.2.2.2.2.2 p k = .null ∨ ∃ a, a < h.1 ∧ h.2.2.2.2.2 p k = .ref a
def z_sc (n : Nat) : Value → Prop
  | .ref a => a < n
  | _ => True
/-- what stands outside: the nest links, the four texts, two statics of the JDK -/
def z_EX (ρ : Nat → Nat) (A : Nat → Prop) (U : State) (H : Heap) : Prop :=
  (∀ w ∈ z_nest, va_Nw w U) ∧ va_AO RX3 U ∧ (∃ adV, vk_S 4 [2, 3, 3, 5] [[111, 114], [97, 110, 100], [110, 111, 116], [107, 110, 111, 119, 110]] (fun i => ρ (i + 1)) adV A U H) ∧
  (vk_R RX9 62 "or" (ρ 1) U ∧ vk_R RX9 68 "and" (ρ 2) U ∧ vk_R RX9 70 "not" (ρ 3) U ∧ vk_R RX9 72 "known" (ρ 4) U) ∧
  va_Z "java/lang/String" "COMPACT_STRINGS" "Z" (.int 1) A U H ∧ va_Zq "jdk/internal/util/Preconditions" "SIOOBE_FORMATTER" "Ljava/util/function/BiFunction;" A U H
def z_WS (j : Nat) : List Cond := .code (z_y j) (z_C j) (z_L j) (z_R j) :: TW
def z_rm (d mc ms : Nat) : Room := { frames := d, cells := mc, slots := ms, locals := 100 * d }
def z_RI (i : Instr) (ret : Option FieldType) (r : Option Value) : Prop := match i with
  | .ireturn => ∃ ty v, ret = some ty ∧ r = some (.int v) ∧ narrow ty (.int v) = .int v
  | .lreturn => ∃ v, ret = some .long ∧ r = some (.long v)
  | .areturn => ∃ rt a, ret = some rt ∧ ((∃ n, rt = .object n) ∨ ∃ t, rt = .array t) ∧ r = some (.ref a)
  | .return_ => ret = none ∧ r = none
  | _ => False
def z_SV (D : va_G) (cy : Nat → ClassId) (A : Nat → Prop) (ρ0 : Nat → Nat) (n0 : Nat) (s : State) (mc ms : Nat) (ρ : Nat → Nat) (h : zH) (H : Heap) (locs : List Loc) (st : List Value) (uc us : Nat) : Prop :=
  (∀ q, q < n0 → ρ q = ρ0 q) ∧ n0 ≤ h.1 ∧ va_P D z_classes (z_ws ρ cy h) H ∧ va_D A (z_ws ρ cy h) ∧ z_ok h ∧ va_S A s.heap H locs ∧ (∀ v ∈ st, z_sc h.1 v) ∧ uc ≤ mc ∧ us ≤ ms
def z_LH (arr : Array Slot) (nL : Nat) (ρ : Nat → Nat) (n : Nat) (ls : List (Option Value)) : Prop :=
  arr.size = nL ∧ lv_wf arr ∧ ls.length = nL ∧ ∀ (i : Nat) (v : Value), ls[i]? = some (some v) → arr[i]? = some (.val (z_cv ρ v)) ∧ z_sc n v
def z_CT (l : Launch) (j d mc ms : Nat) (SC : Option (Nat × (Nat → Int32))) (Qf : Option Value → zH → Prop) (p : Program) (e : Env) (R : Room) (s : State) (m : MethodId) (args : Array Value) (below : List Frame) (meth : Method) (c : Code) (D : va_G) (cy : Nat → ClassId) (A : Nat → Prop) (ρ0 : Nat → Nat) (n0 : Nat) (Z : State → Prop) : Prop :=
  p.tables.exec = Jvm.exec ∧ c.code = z_C j ∧ c.maxLocals = z_L j ∧ s.vm.findClass (z_own (z_O j)) = some m.cls ∧ (∀ w ∈ TW, w.before args s = true) ∧ (z_Kd j = 2 → meth.name = "<init>") ∧
  z_EX ρ0 A s s.heap ∧ va_K D z_classes (z_tys cy) s ∧ (∀ q, s.heap.size ≤ q → A q) ∧ (d ≤ R.frames ∧ 100 * d ≤ R.locals ∧ mc ≤ R.cells ∧ ms ≤ R.slots) ∧ 5 ≤ n0 ∧
  (∀ x, SC = some x → va_X (ρ0 0) x.1 x.2 s s.heap ∧ ρ0 0 < s.heap.size ∧ ¬ A (ρ0 0)) ∧
  ∀ ρ h H locs arr i pc r uc us, decode (z_C j) pc = .ok (i, 1) → z_RI i (z_R j) r → Qf r h → z_SV D cy A ρ0 n0 s mc ms ρ h H locs r.toList uc us → W p l e R s m args below meth c H locs uc us Z (F0 m pc arr (r.toList.map (z_cv ρ)))
/-- THE JUDGEMENT: from this place of method j, with these locals, this stack, this heap, it comes to its end with Qf -/
def z_V (l : Launch) (j d mc ms : Nat) (SC : Option (Nat × (Nat → Int32))) (Qf : Option Value → zH → Prop) (pc : Nat) (ls : List (Option Value)) (st : List Value) (h : zH) (uc us : Nat) : Prop :=
  ∀ (p : Program) (e : Env) (R : Room) (s : State) (m : MethodId) (args : Array Value) (below : List Frame) (meth : Method) (c : Code) (D : va_G) (cy : Nat → ClassId) (A : Nat → Prop) (ρ0 : Nat → Nat) (n0 : Nat) (Z : State → Prop),
    z_CT l j d mc ms SC Qf p e R s m args below meth c D cy A ρ0 n0 Z → ∀ (ρ : Nat → Nat) (H : Heap) (locs : List Loc) (arr : Array Slot), z_SV D cy A ρ0 n0 s mc ms ρ h H locs st uc us → z_LH arr (z_L j) ρ h.1 ls →
      W p l e R s m args below meth c H locs uc us Z (F0 m pc arr (st.map (z_cv ρ)))
def z_AA (ρ : Nat → Nat) (cy : Nat → ClassId) (h : zH) (sz : Nat) : Nat → Prop := va_A (z_ws ρ cy h) sz
def z_Pc (D : va_G) (cy : Nat → ClassId) (ρ : Nat → Nat) (h : zH) (sz : Nat) (as : List Value) : Array Value → State → Prop :=
  va_Pc (as.map (z_cv ρ)) (fun U => U.heap.size = sz ∧ va_P D z_classes (z_ws ρ cy h) U.heap ∧ va_D (fun _ => True) (z_ws ρ cy h) ∧ va_K D z_classes (z_tys cy) U ∧ z_EX ρ (z_AA ρ cy h sz) U U.heap)
def z_Qc (D : va_G) (cy : Nat → ClassId) (ρ : Nat → Nat) (h : zH) (sz : Nat) (Q : Option Value → zH → Prop) : Array Value → State → Outcome → State → Prop := fun _ st o t =>
  (∃ (r : Option Value) (h' : zH) (ρ' : Nat → Nat), o = .returned (r.map (z_cv ρ')) ∧ Q r h' ∧ (∀ q, q < h.1 → ρ' q = ρ q) ∧ h.1 ≤ h'.1 ∧ va_P D z_classes (z_ws ρ' cy h') t.heap ∧ va_D (z_AA ρ cy h sz) (z_ws ρ' cy h') ∧ z_ok h' ∧ (∀ v ∈ r.toList, z_sc h'.1 v)) ∧ va_F (z_AA ρ cy h sz) st t
/-- a method's contract at these arguments and this heap: it returns, with Q; at most mc cells of ms slots come -/
def z_Ctr (l : Launch) (d j : Nat) (as : List Value) (h : zH) (mc ms : Nat) (Q : Option Value → zH → Prop) : Prop :=
  z_ok h → (∀ v ∈ as, z_sc h.1 v) → ∀ (D : va_G) (cy : Nat → ClassId) (ρ : Nat → Nat) (sz : Nat), Met l (z_y j) (z_WS j) (z_rm d mc ms) (z_Pc D cy ρ h sz as) (z_Qc D cy ρ h sz Q) mc ms (z_AA ρ cy h sz)
-- locals
def z_kil (ls : List (Option Value)) (i : Nat) : List (Option Value) := match i with
  | 0 => ls
  | k + 1 => match ls[k]? with
    | some (some (.long _)) => ls.set k none
    | some (some (.double _)) => ls.set k none
    | _ => ls
def z_set (ls : List (Option Value)) (i : Nat) (v : Value) : List (Option Value) := (z_kil ls i).set i (some v)
def z_set2 (ls : List (Option Value)) (i : Nat) (v : Value) : List (Option Value) := ((z_kil ls i).set i (some v)).set (i + 1) none
def z_ent (n : Nat) (as : List Value) : List (Option Value) := (as.flatMap (fun v => if v.category = 2 then [some v, none] else [some v])) ++ List.replicate (n - (as.flatMap (fun v => if v.category = 2 then [some v, none] else [some v])).length) none
-- first facts
theorem z_cv_cat (ρ : Nat → Nat) (v : Value) : (z_cv ρ v).category = v.category := by cases v <;> rfl
theorem z_cv_eq {ρ ρ' : Nat → Nat} {n : Nat} (h : ∀ q, q < n → ρ' q = ρ q) {v : Value} (hv : z_sc n v) : z_cv ρ' v = z_cv ρ v := by
  cases v <;> first | rfl | (simp only [z_cv]; rw [h _ hv])
theorem z_cvs_eq {ρ ρ' : Nat → Nat} {n : Nat} (h : ∀ q, q < n → ρ' q = ρ q) {st : List Value} (hv : ∀ v ∈ st, z_sc n v) : st.map (z_cv ρ') = st.map (z_cv ρ) := List.map_congr_left fun v hm => z_cv_eq h (hv v hm)
theorem z_sc_mono {n n' : Nat} (h : n ≤ n') {v : Value} (hv : z_sc n v) : z_sc n' v := by
  cases v <;> first | trivial | exact Nat.lt_of_lt_of_le hv h
theorem z_LH.mono {arr : Array Slot} {nL : Nat} {ρ ρ' : Nat → Nat} {n n' : Nat} {ls : List (Option Value)} (h : z_LH arr nL ρ n ls) (hn : n ≤ n') (hρ : ∀ q, q < n → ρ' q = ρ q) : z_LH arr nL ρ' n' ls :=
  ⟨h.1, h.2.1, h.2.2.1, fun i v hi => ⟨by rw [z_cv_eq hρ (h.2.2.2 i v hi).2]; exact (h.2.2.2 i v hi).1, z_sc_mono hn (h.2.2.2 i v hi).2⟩⟩
theorem z_ws_get {ρ : Nat → Nat} {cy : Nat → ClassId} {h : zH} {p : Nat} (h5 : 5 ≤ p) (hp : p < h.1) : (z_ws ρ cy h)[p - 5]? = some (ρ p, z_conc ρ cy h p) := by
  have e : p - 5 + 5 = p := by omega
  simp only [z_ws, List.getElem?_map, List.getElem?_range (show p - 5 < h.1 - 5 by omega), Option.map_some, e]
theorem z_ws_len (ρ : Nat → Nat) (cy : Nat → ClassId) (h : zH) : (z_ws ρ cy h).length = h.1 - 5 := by simp [z_ws]
theorem z_ws_set {ρ : Nat → Nat} {cy : Nat → ClassId} {h h' : zH} {p : Nat} (hn : h'.1 = h.1) (h5 : 5 ≤ p) (ho : ∀ q, q ≠ p → z_conc ρ cy h' q = z_conc ρ cy h q) : (z_ws ρ cy h).set (p - 5) (ρ p, z_conc ρ cy h' p) = z_ws ρ cy h' := by
  apply List.ext_getElem?
  intro k
  by_cases hk : k < h.1 - 5
  · have e1 : (z_ws ρ cy h')[k]? = some (ρ (k + 5), z_conc ρ cy h' (k + 5)) := by
      have := z_ws_get (ρ := ρ) (cy := cy) (h := h') (p := k + 5) (by omega) (by omega)
      simpa using this
    have e2 : (z_ws ρ cy h)[k]? = some (ρ (k + 5), z_conc ρ cy h (k + 5)) := by
      have := z_ws_get (ρ := ρ) (cy := cy) (h := h) (p := k + 5) (by omega) (by omega)
      simpa using this
    rw [e1]
    by_cases hkp : k = p - 5
    · subst hkp
      rw [List.getElem?_set_self (by rw [z_ws_len]; exact hk)]
      rw [show p - 5 + 5 = p by omega]
    · rw [List.getElem?_set_ne (fun z => hkp z.symm), e2, ho (k + 5) (by omega)]
  · rw [List.getElem?_eq_none (by rw [List.length_set, z_ws_len]; omega), List.getElem?_eq_none (by rw [z_ws_len]; omega)]
theorem z_ws_push {ρ ρ' : Nat → Nat} {cy : Nat → ClassId} {h h' : zH} (h5 : 5 ≤ h.1) (hn : h'.1 = h.1 + 1) (ho : ∀ q, q < h.1 → ρ' q = ρ q ∧ z_conc ρ' cy h' q = z_conc ρ cy h q) : z_ws ρ' cy h' = z_ws ρ cy h ++ [(ρ' h.1, z_conc ρ' cy h' h.1)] := by
  have e : h'.1 - 5 = (h.1 - 5) + 1 := by omega
  simp only [z_ws, e, List.range_succ, List.map_append, List.map_cons, List.map_nil]
  rw [show h.1 - 5 + 5 = h.1 by omega]
  congr 1
  apply List.map_congr_left
  intro k hk
  have := List.mem_range.mp hk
  rw [(ho (k + 5) (by omega)).1, (ho (k + 5) (by omega)).2]
theorem z_SV.st {D : va_G} {cy : Nat → ClassId} {A : Nat → Prop} {ρ0 : Nat → Nat} {n0 : Nat} {s : State} {mc ms : Nat} {ρ : Nat → Nat} {h : zH} {H : Heap} {locs : List Loc} {st st' : List Value} {uc us : Nat} (hS : z_SV D cy A ρ0 n0 s mc ms ρ h H locs st uc us) (h' : ∀ v ∈ st', z_sc h.1 v) : z_SV D cy A ρ0 n0 s mc ms ρ h H locs st' uc us :=
  ⟨hS.1, hS.2.1, hS.2.2.1, hS.2.2.2.1, hS.2.2.2.2.1, hS.2.2.2.2.2.1, h', hS.2.2.2.2.2.2.2⟩
theorem z_sc_cons {n : Nat} {v : Value} {st : List Value} (hv : z_sc n v) (h : ∀ w ∈ st, z_sc n w) : ∀ w ∈ v :: st, z_sc n w := fun w hw => by
  rcases List.mem_cons.mp hw with rfl | hw
  · exact hv
  · exact h w hw
theorem z_sc_tail {n : Nat} {v : Value} {st : List Value} (h : ∀ w ∈ v :: st, z_sc n w) : ∀ w ∈ st, z_sc n w := fun w hw => h w (List.mem_cons_of_mem _ hw)
theorem z_sc_head {n : Nat} {v : Value} {st : List Value} (h : ∀ w ∈ v :: st, z_sc n w) : z_sc n v := h v List.mem_cons_self
