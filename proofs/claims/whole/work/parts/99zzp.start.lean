/-! the kit's skeleton from its PART A to the walk (a starting text), and whole_start -/
def R_law : String := "MarkCabinetLaw"
def lw_P (b : Addr) (xs : List Int32) (args : Array Value) (s : State) : Prop := args = #[.ref b] ∧ s.IntsAt b xs ∧ xs.length ≤ 3584 ∧ (Jvm.Cond.and given_1 narrow_1).before args s = true
def lw_Q (_ : Array Value) (s : State) (o : Outcome) (t : State) : Prop := o = .returned (some (.int 1)) ∧ Framed s o t [] 274376 8279122
def lw_Z (below : List Frame) (a : Array Value) (s : State) : State → Prop := fun t => ∃ o, t.status = .running ∧ Ended t below o ∧ lw_Q a s o t
/-- the law's own end, with 1 on the stack, nothing written that was there before, its room as the claim has it -/
theorem lw_ret {p : Program} {l : Launch} {e : Env} {s : State} {m : MethodId} {below : List Frame} {meth : Method} {c : Code} {b : Nat} (hx : p.tables.exec = Jvm.exec) (hb : c.code = code) (hr : meth.sig.returnType = ret) (hlocks : meth.locks = false) {pc : Nat} {H : Heap} {ls : Array Slot} (hdg : decode code pc = .ok (.ireturn, 1)) : W p l e room_1 s m #[Value.ref b] below meth c H [] 274376 8279122 (lw_Z below #[Value.ref b] s) (F0 m pc ls [.int 1]) := by
  intro T hT X
  obtain ⟨fs, hret, hrun, hended, hW, hframe⟩ := X.leave (v := some (.int 1)) (hlocks := hlocks) (fun h => by rw [hr] at h; cases h)
  have hmeth' : T.vm.method? m = some meth := X.method'
  refine ⟨T.setFrames fs, ?_, .returned (some (.int 1)), hrun, hended, rfl, ⟨_, rfl⟩, hW, hframe⟩
  jvm_step X.here [X.here.top, hx, hb, hdg, hmeth', hr, ret, narrow_b1]
  (try refine ⟨rfl, ?_⟩); (try refine ⟨rfl, ?_⟩)
  first | (intro acts; rw [hret _ acts rfl rfl rfl]) | rw [hret _ _ rfl rfl rfl]
  exact Steps.refl _
/-- what holds at the law's entry: the machine, the code, the tables' words (any of lw_tbl by 'hts w (by decide +kernel)'), the script of L ints xs at the cell b, what the Statement gives of the start (any of its parts by flat_of_before) -/
def lw_At (p : Program) (s : State) (m : MethodId) (meth : Method) (c : Code) (b L : Nat) (xs : Nat → Int32) : Prop :=
  p.tables.exec = Jvm.exec ∧ c.code = code ∧ meth.sig.returnType = ret ∧ c.maxLocals = 4 ∧ s.vm.findClass R_law = some m.cls ∧ (∀ w ∈ lw_tbl, w.before #[Value.ref b] s = true) ∧ va_X b L xs s s.heap ∧ b < s.heap.size ∧ meth.locks = false ∧ (Jvm.Cond.and given_1 narrow_1).before #[Value.ref b] s = true
theorem zs_in {w : Cond} {i : Nat} (h : lw_tbl[i]? = some w) : w ∈ lw_tbl := List.mem_of_getElem? h
theorem zs_cls : ∀ c, c < 12 → ∃ r ∈ z_nl, r.2.2 = c := by decide +kernel
theorem zs_nest : ∀ w ∈ z_nest, w.onTables = true := by decide +kernel
theorem zs_own : ∀ c, c < 12 → ∀ q, z_classes[c]? = some q → q.1 = z_own c ∧ q.2.2 = z_num c := by
  intro c hc q hq
  have : c = 0 ∨ c = 1 ∨ c = 2 ∨ c = 3 ∨ c = 4 ∨ c = 5 ∨ c = 6 ∨ c = 7 ∨ c = 8 ∨ c = 9 ∨ c = 10 ∨ c = 11 := by omega
  rcases this with rfl | rfl | rfl | rfl | rfl | rfl | rfl | rfl | rfl | rfl | rfl | rfl <;> (cases hq; exact ⟨rfl, rfl⟩)
theorem zs_D {s : State} {args : Array Value} (hTW : ∀ w ∈ TW, w.before args s = true) : ∃ D : va_G, ∀ (c : Nat) (q : vw_C), z_classes[c]? = some q → u_Kn s q.1 q.2.1 q.2.2 (D.1 c) (D.2 c) := by
  have h0 : ∀ c : Nat, ∃ x : ClassId × (Nat → Nat), ∀ q, z_classes[c]? = some q → u_Kn s q.1 q.2.1 q.2.2 x.1 x.2 := by
    intro c
    by_cases hc : c < 12
    · cases hq : z_classes[c]? with
      | none => exact ⟨(0, fun _ => 0), fun q h => by cases h⟩
      | some q =>
        obtain ⟨r, hr, e⟩ := zs_cls c hc
        obtain ⟨o, i, c'⟩ := r
        dsimp only at e
        subst e
        obtain ⟨e1, e2⟩ := zs_own _ hc q hq
        obtain ⟨cC, iS, k⟩ := u_known (C := q.1) (T := q.2.1) (N := q.2.2) (n := z_num c') hTW (z_cin _ q hq) (by rw [e1]; exact hTW _ (z_nl_in hr).2.1)
        exact ⟨(cC, iS), fun q' h => by cases h; exact k⟩
    · refine ⟨(0, fun _ => 0), fun q h => ?_⟩
      have := (List.getElem?_eq_some_iff.mp h).1
      simp [z_classes] at this
      omega
  obtain ⟨f, hf⟩ := Classical.axiomOfChoice h0
  exact ⟨(fun c => (f c).1, fun c => (f c).2), fun c q hq => hf c q hq⟩
theorem zs_arr {s : State} {args : Array Value} {ty : FieldType} (hp : va_RA s = va_RA s) (h : (Cond.arrayClass ty).before args s = true) (hty : ∀ C, ty ≠ .object C) : ∃ cA : ClassId, ArrOfT s cA ty ∧ va_RA s cA ty := by
  obtain ⟨c, k, comp, h1, h2, h3⟩ := Cond.arrayClass_spec (type := ty) h
  refine ⟨c, fun n z => ⟨fun k h => (by cases h), k, h2, comp, h3⟩, ?_⟩
  cases ty <;> first | exact h1 | exact absurd rfl (hty _)
theorem zs_arro {s : State} {args : Array Value} {C : String} (h : (Cond.arrayOver (.object C)).before args s = true) : ∃ cA : ClassId, ArrOfT s cA (.object C) ∧ va_RA s cA (.object C) := by
  obtain ⟨comp, c, k, h1, -, h2, h3, h4⟩ := Cond.arrayOver_spec (n := C) h
  exact ⟨c, fun n z => ⟨fun k h => (by cases h), k, h2, comp, h3⟩, k, comp, h2, h3, h1, h4⟩
def zs_tm (i : Nat) : Term := .string "MarkCabinet$Tokens" (([62, 68, 70, 72] : List Nat).getD i 0)
def zs_r (b : Nat) (ad : Nat → Nat) : Nat → Nat
  | 0 => b
  | i + 1 => ad i
theorem zs_4 {P : Nat → Prop} (h0 : P 0) (h1 : P 1) (h2 : P 2) (h3 : P 3) : ∀ i, i < 4 → P i := fun i hi => by
  rcases (show i = 0 ∨ i = 1 ∨ i = 2 ∨ i = 3 by omega) with rfl | rfl | rfl | rfl
  · exact h0
  · exact h1
  · exact h2
  · exact h3
set_option maxHeartbeats 4000000 in
theorem zs_str {s : State} {args : Array Value} {A : Nat → Prop} (hgv : (Jvm.Cond.and given_1 narrow_1).before args s = true) (hA : ∀ a : Nat, a < s.heap.size → ¬ A a) : ∃ adK adV : Nat → Nat, vk_S 4 [2, 3, 3, 5] [[111, 114], [97, 110, 100], [110, 111, 116], [107, 110, 111, 119, 110]] adK adV A s s.heap ∧ ∀ i : Nat, i < 4 → (zs_tm i).eval args s none [] s = some (.ref (adK i)) := by
  have hs := flat_of_before _ hgv
  refine vk_Sof (tm := zs_tm) (zs_4 (by decide) (by decide) (by decide) (by decide)) (zs_4 (hs _ (by decide +kernel)) (hs _ (by decide +kernel)) (hs _ (by decide +kernel)) (hs _ (by decide +kernel))) (zs_4 (hs _ (by decide +kernel)) (hs _ (by decide +kernel)) (hs _ (by decide +kernel)) (hs _ (by decide +kernel))) (zs_4 (hs _ (by decide +kernel)) (hs _ (by decide +kernel)) (hs _ (by decide +kernel)) (hs _ (by decide +kernel))) (zs_4 (hs _ (by decide +kernel)) (hs _ (by decide +kernel)) (hs _ (by decide +kernel)) (hs _ (by decide +kernel))) (zs_4 ?_ ?_ ?_ ?_) ?_ hA
  · intro j hj
    rcases (show j = 0 ∨ j = 1 by have : j < 2 := hj; omega) with rfl | rfl <;> exact hs _ (by decide +kernel)
  · intro j hj
    rcases (show j = 0 ∨ j = 1 ∨ j = 2 by have : j < 3 := hj; omega) with rfl | rfl | rfl <;> exact hs _ (by decide +kernel)
  · intro j hj
    rcases (show j = 0 ∨ j = 1 ∨ j = 2 by have : j < 3 := hj; omega) with rfl | rfl | rfl <;> exact hs _ (by decide +kernel)
  · intro j hj
    rcases (show j = 0 ∨ j = 1 ∨ j = 2 ∨ j = 3 ∨ j = 4 by have : j < 5 := hj; omega) with rfl | rfl | rfl | rfl | rfl <;> exact hs _ (by decide +kernel)
  · have lt : ∀ i j : Nat, j < 4 → i < j → (Cond.not (Cond.eq (zs_tm i) (zs_tm j))).before args s = true := by
      intro i j hj hij
      rcases (show (i = 0 ∧ j = 1) ∨ (i = 0 ∧ j = 2) ∨ (i = 0 ∧ j = 3) ∨ (i = 1 ∧ j = 2) ∨ (i = 1 ∧ j = 3) ∨ (i = 2 ∧ j = 3) by omega) with ⟨rfl, rfl⟩ | ⟨rfl, rfl⟩ | ⟨rfl, rfl⟩ | ⟨rfl, rfl⟩ | ⟨rfl, rfl⟩ | ⟨rfl, rfl⟩ <;> exact hs _ (by decide +kernel)
    intro i j hi hj hij
    rcases Nat.lt_or_gt_of_ne hij with q | q
    · exact Or.inl (lt i j hj q)
    · exact Or.inr (lt j i hi q)
theorem zs_h0 : e_H ([], [], [], []) ((5, fun p => if p < 5 then 99 else 0, fun _ => 0, fun _ _ => 0, fun _ _ => 0, fun _ _ => .null) : zH) := ⟨rfl, fun p r h => by
  unfold e_kd at h
  split at h
  · cases h
  · simp at h, fun _ _ _ => rfl, fun _ _ => rfl, fun _ _ => rfl⟩
theorem zs_code : z_C 258 = code ∧ z_L 258 = 4 ∧ z_R 258 = some .boolean ∧ z_own (z_O 258) = R_law ∧ z_Kd 258 ≠ 2 := ⟨rfl, rfl, rfl, rfl, by decide⟩
set_option maxHeartbeats 4000000 in
theorem zs_EX {s : State} {b : Nat} {adK adV : Nat → Nat} (hts : ∀ w ∈ lw_tbl, w.before #[Value.ref b] s = true) (hs : ∀ c ∈ flatC (Jvm.Cond.and given_1 narrow_1), c.before #[Value.ref b] s = true) (hAO : (Cond.arrayOver (.object RX3)).before #[Value.ref b] s = true) (hA : ∀ a : Nat, a < s.heap.size → ¬ (fun q : Nat => s.heap.size ≤ q) a) (hSv : vk_S 4 [2, 3, 3, 5] [[111, 114], [97, 110, 100], [110, 111, 116], [107, 110, 111, 119, 110]] adK adV (fun q : Nat => s.heap.size ≤ q) s s.heap) (hev : ∀ i : Nat, i < 4 → (zs_tm i).eval #[Value.ref b] s none [] s = some (.ref (adK i))) : z_EX (zs_r b adK) (fun q : Nat => s.heap.size ≤ q) s s.heap := by
  refine ⟨fun w hw => va_Nw.of (zs_nest w hw) (hts w (List.mem_append_right _ (z_nest_in w hw))), va_AO.of hAO, ⟨adV, hSv⟩, ⟨?_, ?_, ?_, ?_⟩, ?_, ?_⟩
  · exact vk_R.of (hts _ (zs_in (w := .stringRef RX9 62 "or") (i := 654) (by decide +kernel))) (hev 0 (by omega))
  · exact vk_R.of (hts _ (zs_in (w := .stringRef RX9 68 "and") (i := 706) (by decide +kernel))) (hev 1 (by omega))
  · exact vk_R.of (hts _ (zs_in (w := .stringRef RX9 70 "not") (i := 707) (by decide +kernel))) (hev 2 (by omega))
  · exact vk_R.of (hts _ (zs_in (w := .stringRef RX9 72 "known") (i := 708) (by decide +kernel))) (hev 3 (by omega))
  · exact va_Zof (hts _ (zs_in (w := .laysStatic "java/lang/String" "COMPACT_STRINGS" "Z") (i := 667) (by decide +kernel))) (hts _ (zs_in (w := .initialized "java/lang/String") (i := 107) (by decide +kernel))) (va_eqt (hs (.eq (.static "java/lang/String" "COMPACT_STRINGS" "Z") (.int 1)) (by decide +kernel))) hA
  · exact va_Zqof (hts _ (zs_in (w := .laysStatic "jdk/internal/util/Preconditions" "SIOOBE_FORMATTER" "Ljava/util/function/BiFunction;") (i := 683) (by decide +kernel))) (hts _ (zs_in (w := .initialized "jdk/internal/util/Preconditions") (i := 109) (by decide +kernel))) (hs (.isRef (.static "jdk/internal/util/Preconditions" "SIOOBE_FORMATTER" "Ljava/util/function/BiFunction;")) (by decide +kernel)) hA
theorem zs_AO : Cond.arrayOver (.object RX3) ∈ lw_tbl := zs_in (i := 229) (by decide +kernel)
theorem zs_rm : 40 ≤ room_1.frames ∧ 100 * 40 ≤ room_1.locals ∧ 274376 ≤ room_1.cells ∧ 8279122 ≤ room_1.slots := ⟨Nat.le_of_ble_eq_true rfl, Nat.le_of_ble_eq_true rfl, Nat.le_of_ble_eq_true rfl, Nat.le_of_ble_eq_true rfl⟩
theorem zs_LH {b : Nat} {ad : Nat → Nat} : z_LH (lg_sl [Value.ref b] ++ List.replicate (4 - (lg_sl [Value.ref b]).length) Slot.unset).toArray (z_L 258) (zs_r b ad) 5 [some (.ref 0), none, none, none] := by
  have hl := lv_entry ([.ref b]) (n := 4) (Nat.le_of_ble_eq_true rfl)
  refine ⟨hl.1.trans zs_code.2.1.symm, hl.2.1, zs_code.2.1.symm, fun i v hi => ?_⟩
  match i, hi with
  | 0, hi =>
    cases hi
    exact ⟨hl.2.2 (0, .ref b) (by simp [lv_args]), Nat.succ_pos 4⟩
  | 1, hi => cases hi
  | 2, hi => cases hi
  | 3, hi => cases hi
  | i + 4, hi => simp at hi
theorem zs_V (l : Launch) {L : Nat} {xs : Nat → Int32} (hL : L ≤ 3584) : z_V l 258 40 274376 8279122 (some (L, xs)) (fun r _ => r = some (.int 1)) 0 [some (.ref 0), none, none, none] [] (5, fun p => if p < 5 then 99 else 0, fun _ => 0, fun _ _ => 0, fun _ _ => 0, fun _ _ => .null) 0 0 := w_all (X := (l, 258, 40, 274376, 8279122, some (L, xs), fun r _ => r = some (.int 1))) rfl rfl rfl rfl rfl hL (fun _ => rfl) zs_h0
theorem zs_end {p : Program} {l : Launch} {e : Env} {s : State} {m : MethodId} {below : List Frame} {meth : Method} {c : Code} {b : Nat} (hx : p.tables.exec = Jvm.exec) (hb : c.code = code) (hr : meth.sig.returnType = ret) (hlocks : meth.locks = false) {H : Heap} {locs : List Loc} {arr : Array Slot} {i : Instr} {pc uc us : Nat} {r : Option Value} {ρ : Nat → Nat} (hd : decode (z_C 258) pc = .ok (i, 1)) (hri : z_RI i (z_R 258) r) (hq : r = some (.int 1)) (hlo : ∀ q ∈ locs, s.heap.size ≤ q.base) (huc : uc ≤ 274376) (hus : us ≤ 8279122) : W p l e room_1 s m #[Value.ref b] below meth c H locs uc us (lw_Z below #[Value.ref b] s) (F0 m pc arr (r.toList.map (z_cv ρ))) := by
  subst hq
  refine W.widen (k := 274376) (n := 8279122) huc hus ?_
  refine va_forget hlo ?_
  rw [zs_code.1] at hd
  unfold z_RI at hri
  split at hri
  · exact lw_ret hx hb hr hlocks hd
  · obtain ⟨v, -, h2⟩ := hri
    cases h2
  · obtain ⟨_, _, _, _, h2⟩ := hri
    cases h2
  · cases hri.2
  · exact hri.elim
set_option maxHeartbeats 4000000 in
/-- from the entry, for every script of at most 3584 ints, the law comes to its end with true -/
theorem whole_start {p : Program} {e : Env} {s : State} {m : MethodId} {below : List Frame} {meth : Method} {c : Code} (l : Launch) {b L : Nat} {xs : Nat → Int32} (hL : L ≤ 3584) (C0 : lw_At p s m meth c b L xs) : W p l e room_1 s m #[Value.ref b] below meth c s.heap [] 0 0 (lw_Z below #[Value.ref b] s) (entryFrame m ([Value.ref b] : List Value).toArray 4) := by
  obtain ⟨hx, hb, hr, hml, hown, hts, hX, hbl, hlocks, hgv⟩ := C0
  have hA : ∀ a : Nat, a < s.heap.size → ¬ (fun q : Nat => s.heap.size ≤ q) a := fun a h => Nat.not_le.mpr h
  have hTW : ∀ w ∈ TW, w.before #[Value.ref b] s = true := fun w hw => hts w (List.mem_filter.mp hw).1
  have hs := flat_of_before _ hgv
  obtain ⟨D, hD⟩ := zs_D hTW
  obtain ⟨c12, a12⟩ := zs_arr rfl (hTW _ (z_arr_in (.arrayClass .char) (by simp))) (fun C h => by cases h)
  obtain ⟨c13, a13⟩ := zs_arr rfl (hTW _ (z_arr_in (.arrayClass .int) (by simp))) (fun C h => by cases h)
  obtain ⟨c14, a14⟩ := zs_arr rfl (hTW _ (z_arr_in (.arrayClass .long) (by simp))) (fun C h => by cases h)
  obtain ⟨c15, a15⟩ := zs_arr rfl (hTW _ (z_arr_in (.arrayClass .boolean) (by simp))) (fun C h => by cases h)
  have hAO := hts _ zs_AO
  obtain ⟨c16, a16⟩ := zs_arro hAO
  obtain ⟨adK, adV, hSv, hev⟩ := zs_str (A := fun q : Nat => s.heap.size ≤ q) hgv hA
  have hK : va_K D z_classes (z_tys (fun k => if k = 12 then c12 else if k = 13 then c13 else if k = 14 then c14 else if k = 15 then c15 else c16)) s := ⟨hD, fun k q h => by
    match k, h with
    | 0, h => cases h; exact a12
    | 1, h => cases h; exact a13
    | 2, h => cases h; exact a14
    | 3, h => cases h; exact a15
    | 4, h => cases h; exact a16
    | k + 5, h => simp [z_tys] at h⟩
  have hEX := zs_EX hts hs hAO hA hSv hev
  rw [lg_entry_eq]
  refine zs_V l (xs := xs) hL p e room_1 s m #[Value.ref b] below meth c D _ (fun q : Nat => s.heap.size ≤ q) (zs_r b adK) 5 (lw_Z below #[Value.ref b] s) ⟨hx, hb.trans zs_code.1.symm, hml.trans zs_code.2.1.symm, by rw [zs_code.2.2.2.1]; exact hown, hTW, fun q => absurd q zs_code.2.2.2.2, hEX, hK, fun q h => h, zs_rm, Nat.le_refl _, fun x h => ?_, fun ρ h H locs arr i pc r uc us hd hri hq hS => zs_end hx hb hr hlocks hd hri hq hS.2.2.2.2.2.1.2.2 hS.2.2.2.2.2.2.2.1 hS.2.2.2.2.2.2.2.2⟩ (zs_r b adK) s.heap [] _ ⟨fun _ _ => rfl, Nat.le_refl _, fun k q h => by simp [z_ws] at h, ⟨fun i j p q h => by simp [z_ws] at h, fun k q h => by simp [z_ws] at h⟩, ⟨Nat.le_refl _, fun p hp => if_pos hp, fun _ _ => Or.inl rfl⟩, va_S.rf, (fun v hv => absurd hv List.not_mem_nil), Nat.zero_le _, Nat.zero_le _⟩ zs_LH
  cases h
  exact ⟨hX, hbl, hA b hbl⟩
