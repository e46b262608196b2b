/-! THE CONSTRUCTORS, run by a program over heaps in the making -/
/-- a heap in the making: kinds and lengths from place 5 on; ints set; references set; arrays filled -/
abbrev eT : Type := List (Nat × Nat) × List (Nat × Nat × Int32) × List (Nat × Nat × Nat) × List (Nat × Int32)
def e_I (t : eT) (p k : Nat) : Int32 := ((t.2.1.find? (fun a => Nat.beq a.1 p && Nat.beq a.2.1 k)).map (fun a => a.2.2)).getD (((t.2.2.2.find? (fun a => Nat.beq a.1 p)).map (fun a => a.2)).getD 0)
def e_G (t : eT) (p k : Nat) : Value := ((t.2.2.1.find? (fun a => Nat.beq a.1 p && Nat.beq a.2.1 k)).map (fun a => Value.ref a.2.2)).getD .null
def e_kd (t : eT) (p : Nat) : Option (Nat × Nat) := if p < 5 then none else t.1[p - 5]?
def e_fr (t : eT) (n : Nat) : Bool := t.2.1.all (fun a => !Nat.beq a.1 n) && t.2.2.1.all (fun a => !Nat.beq a.1 n) && t.2.2.2.all (fun a => !Nat.beq a.1 n)
def e_H (t : eT) (h : zH) : Prop := h.1 = 5 + t.1.length ∧ (∀ p r, e_kd t p = some r → h.2.1 p = r.1 ∧ h.2.2.1 p = r.2) ∧ (∀ p k, ((∀ a ∈ t.2.2.2, a.1 ≠ p) ∨ k < h.2.2.1 p) → h.2.2.2.1 p k = e_I t p k) ∧ (∀ p k, h.2.2.2.2.1 p k = 0) ∧ ∀ p k, h.2.2.2.2.2 p k = e_G t p k
def e_ad (t : eT) (kd ln : Nat) : eT := (t.1 ++ [(kd, ln)], t.2)
def e_si (t : eT) (p k : Nat) (x : Int32) : eT := (t.1, (p, k, x) :: t.2.1, t.2.2)
def e_sg (t : eT) (p k q : Nat) : eT := (t.1, t.2.1, (p, k, q) :: t.2.2.1, t.2.2.2)
def e_fl (t : eT) (p : Nat) (x : Int32) : eT := (t.1, t.2.1, t.2.2.1, (p, x) :: t.2.2.2)
theorem e_I_si (t : eT) (a k : Nat) (x : Int32) (p i : Nat) : e_I (e_si t a k x) p i = if p = a ∧ i = k then x else e_I t p i := by
  unfold e_I e_si
  by_cases h : p = a ∧ i = k
  · obtain ⟨rfl, rfl⟩ := h
    simp [List.find?_cons]
  · rw [if_neg h]
    have : (Nat.beq a p && Nat.beq k i) = false := by
      cases e : (Nat.beq a p && Nat.beq k i)
      · rfl
      · simp only [Bool.and_eq_true] at e
        exact absurd ⟨(Nat.eq_of_beq_eq_true e.1).symm, (Nat.eq_of_beq_eq_true e.2).symm⟩ h
    simp only [List.find?_cons, this]
theorem e_G_sg (t : eT) (a k q : Nat) (p i : Nat) : e_G (e_sg t a k q) p i = if p = a ∧ i = k then .ref q else e_G t p i := by
  unfold e_G e_sg
  by_cases h : p = a ∧ i = k
  · obtain ⟨rfl, rfl⟩ := h
    simp [List.find?_cons]
  · rw [if_neg h]
    have : (Nat.beq a p && Nat.beq k i) = false := by
      cases e : (Nat.beq a p && Nat.beq k i)
      · rfl
      · simp only [Bool.and_eq_true] at e
        exact absurd ⟨(Nat.eq_of_beq_eq_true e.1).symm, (Nat.eq_of_beq_eq_true e.2).symm⟩ h
    simp only [List.find?_cons, this]
theorem e_find0 {β : Type} {g : Nat × β → Bool} {l : List (Nat × β)} {n : Nat} (h : l.all (fun a => !Nat.beq a.1 n) = true) : l.find? (fun a => Nat.beq a.1 n && g a) = none := by
  rw [List.find?_eq_none]
  intro a ha
  have := List.all_eq_true.mp h a ha
  simp only [Bool.not_eq_true'] at this
  simp [this]
theorem e_find1 {β : Type} {l : List (Nat × β)} {n : Nat} (h : l.all (fun a => !Nat.beq a.1 n) = true) : l.find? (fun a => Nat.beq a.1 n) = none := by
  rw [List.find?_eq_none]
  intro a ha
  have := List.all_eq_true.mp h a ha
  simp only [Bool.not_eq_true'] at this
  simp [this]
theorem e_fr0 {t : eT} {n : Nat} (h : e_fr t n = true) (k : Nat) : e_I t n k = 0 ∧ e_G t n k = .null ∧ ∀ a ∈ t.2.2.2, a.1 ≠ n := by
  unfold e_fr at h
  simp only [Bool.and_eq_true] at h
  obtain ⟨⟨h1, h2⟩, h3⟩ := h
  refine ⟨?_, ?_, fun a ha e => ?_⟩
  · unfold e_I
    rw [e_find0 h1, e_find1 h3]
    rfl
  · unfold e_G
    rw [e_find0 h2]
    rfl
  · have := List.all_eq_true.mp h3 a ha
    rw [e] at this
    simp at this
theorem e_kd_lt {t : eT} {p : Nat} {r : Nat × Nat} (h : e_kd t p = some r) : 5 ≤ p ∧ p < 5 + t.1.length := by
  unfold e_kd at h
  split at h
  · cases h
  · have := (List.getElem?_eq_some_iff.mp h).1
    omega
theorem e_H.ad {t : eT} {h : zH} (H : e_H t h) (hf : e_fr t (5 + t.1.length) = true) (kd ln : Nat) : e_H (e_ad t kd ln) (z_hN h kd ln) := by
  obtain ⟨h1, h2, h3, h4, h5⟩ := H
  refine ⟨by simp [e_ad, h1]; omega, fun p r hr => ?_, fun p k hk => ?_, fun p k => ?_, fun p k => ?_⟩
  · by_cases hp : p = 5 + t.1.length
    · have e : r = (kd, ln) := by
        unfold e_kd e_ad at hr
        rw [if_neg (by omega), hp, show 5 + t.1.length - 5 = t.1.length by omega] at hr
        simp at hr
        exact hr.symm
      subst e
      simp [z_w, h1, hp]
    · have hb := e_kd_lt hr
      have e : e_kd t p = some r := by
        unfold e_kd e_ad at *
        rw [if_neg (by omega)] at *
        simp only [List.length_append, List.length_cons, List.length_nil] at hb
        rw [List.getElem?_append_left (by omega)] at hr
        exact hr
      simp only [z_w, h1, if_neg hp]
      exact h2 p r e
  · by_cases hp : p = 5 + t.1.length
    · show z_w h.2.2.2.1 h.1 (fun _ => 0) p k = e_I t p k
      rw [hp, (e_fr0 hf k).1]
      simp [z_w, h1]
    · show z_w h.2.2.2.1 h.1 (fun _ => 0) p k = e_I t p k
      have hk' : (∀ a ∈ t.2.2.2, a.1 ≠ p) ∨ k < h.2.2.1 p := by
        rcases hk with q | q
        · exact Or.inl q
        · refine Or.inr ?_
          simpa [z_w, h1, hp] using q
      simp only [z_w, h1, if_neg hp]
      exact h3 p k hk'
  · show z_w h.2.2.2.2.1 h.1 (fun _ => 0) p k = 0
    unfold z_w
    split
    · rfl
    · exact h4 p k
  · show z_w h.2.2.2.2.2 h.1 (fun _ => .null) p k = e_G t p k
    by_cases hp : p = 5 + t.1.length
    · rw [hp, (e_fr0 hf k).2.1]
      simp [z_w, h1]
    · simp only [z_w, h1, if_neg hp]
      exact h5 p k
theorem e_H.si {t : eT} {h : zH} (H : e_H t h) (a k : Nat) (x : Int32) : e_H (e_si t a k x) (z_hI h (z_u h.2.2.2.1 a k x)) := by
  obtain ⟨h1, h2, h3, h4, h5⟩ := H
  refine ⟨h1, h2, fun p i hi => ?_, h4, h5⟩
  rw [e_I_si]
  show z_u h.2.2.2.1 a k x p i = _
  unfold z_u
  by_cases hp : p = a
  · subst hp
    by_cases e : i = k
    · subst e; simp
    · simp only [e, and_false, ↓reduceIte]
      exact h3 p i hi
  · simp only [hp, false_and, ↓reduceIte]
    exact h3 p i hi
theorem e_H.sg {t : eT} {h : zH} (H : e_H t h) (a k q : Nat) : e_H (e_sg t a k q) (z_hG h (z_u h.2.2.2.2.2 a k (.ref q))) := by
  obtain ⟨h1, h2, h3, h4, h5⟩ := H
  refine ⟨h1, h2, h3, h4, fun p i => ?_⟩
  rw [e_G_sg]
  show z_u h.2.2.2.2.2 a k (.ref q) p i = _
  unfold z_u
  by_cases hp : p = a
  · subst hp
    by_cases e : i = k
    · subst e; simp
    · simp only [e, and_false, ↓reduceIte]
      exact h5 p i
  · simp only [hp, false_and, ↓reduceIte]
    exact h5 p i
theorem e_H.sj {t : eT} {h : zH} (H : e_H t h) (a k : Nat) : e_H t (z_hJ h (z_u h.2.2.2.2.1 a k 0)) := by
  obtain ⟨h1, h2, h3, h4, h5⟩ := H
  refine ⟨h1, h2, h3, fun p i => ?_, h5⟩
  show z_u h.2.2.2.2.1 a k 0 p i = 0
  unfold z_u
  split
  · split
    · rfl
    · exact h4 _ _
  · exact h4 _ _
def e_cs (st : List Value) : Nat := (st.map (fun v => v.category)).sum
/-- a step that calls nothing -/
def e_1 (mc ms th : Nat) (i : Instr) (info : List Nat) (cst : Int) (st : List Value) (t : eT) (uc us : Nat) : Option (List Value × eT × Nat × Nat) := match i with
  | .aload_n k => if (k : Nat) = 0 then some (.ref th :: st, t, uc, us) else none
  | .iconst n => some (.int (Int32.ofInt n) :: st, t, uc, us)
  | .bipush n => some (.int (Int32.ofInt n) :: st, t, uc, us)
  | .sipush n => some (.int (Int32.ofInt n) :: st, t, uc, us)
  | .ldc _ => some (.int (Int32.ofInt cst) :: st, t, uc, us)
  | .lconst n => some (.long (Int64.ofNat (n : Nat)) :: st, t, uc, us)
  | .dup => match st with
    | .ref a :: r => some (.ref a :: .ref a :: r, t, uc, us)
    | _ => none
  | .invokespecial _ => match info, st with
    | [999], .ref _ :: r => if e_cs r ≤ 8 then some (r, t, uc, us) else none
    | _, _ => none
  | .new _ => match info with
    | [c, n] => if uc + 1 ≤ mc ∧ us + n ≤ ms ∧ e_fr t (5 + t.1.length) = true then some (.ref (5 + t.1.length) :: st, e_ad t c 0, uc + 1, us + n) else none
    | _ => none
  | .newarray _ => match st, info with
    | .int n :: r, [kd] => if ¬ n < 0 ∧ n.toNatClampNeg ≤ 65536 ∧ uc + 1 ≤ mc ∧ us + n.toNatClampNeg ≤ ms ∧ e_fr t (5 + t.1.length) = true then some (.ref (5 + t.1.length) :: r, e_ad t kd n.toNatClampNeg, uc + 1, us + n.toNatClampNeg) else none
    | _, _ => none
  | .anewarray _ => match st with
    | .int n :: r => if ¬ n < 0 ∧ n.toNatClampNeg ≤ 65536 ∧ uc + 1 ≤ mc ∧ us + n.toNatClampNeg ≤ ms ∧ e_fr t (5 + t.1.length) = true then some (.ref (5 + t.1.length) :: r, e_ad t 16 n.toNatClampNeg, uc + 1, us + n.toNatClampNeg) else none
    | _ => none
  | .putfield _ => match st, info with
    | .int x :: .ref a :: r, [c, k, 0] => if e_kd t a = some (c, 0) then some (r, e_si t a k x, uc, us) else none
    | .int x :: .ref a :: r, [c, k, 3] => if e_kd t a = some (c, 0) ∧ (x = 0 ∨ x = 1) then some (r, e_si t a k x, uc, us) else none
    | .long x :: .ref a :: r, [c, k, 1] => if e_kd t a = some (c, 0) ∧ x = 0 then some (r, t, uc, us) else none
    | .ref b :: .ref a :: r, [c, k, 2] => if e_kd t a = some (c, 0) then some (r, e_sg t a k b, uc, us) else none
    | _, _ => none
  | .getfield _ => match st, info with
    | .ref a :: r, [c, k, 2] => if e_kd t a = some (c, 0) then some (e_G t a k :: r, t, uc, us) else none
    | _, _ => none
  | .iastore => match st with
    | .int x :: .int i :: .ref a :: r => match e_kd t a with
      | some (13, ln) => if ¬ (i < 0 ∨ ln ≤ i.toNatClampNeg) then some (r, e_si t a i.toNatClampNeg x, uc, us) else none
      | _ => none
    | _ => none
  | .aastore => match st with
    | .ref b :: .int i :: .ref a :: r => match e_kd t a with
      | some (16, ln) => if ¬ (i < 0 ∨ ln ≤ i.toNatClampNeg) ∧ e_kd t b = some (3, 0) then some (r, e_sg t a i.toNatClampNeg b, uc, us) else none
      | _ => none
    | _ => none
  | _ => none
set_option maxHeartbeats 4000000 in
theorem e_1_ok {X : zX} {mc ms th pc : Nat} {i : Instr} {info : List Nat} {cst : Int} {ls : List (Option Value)} {st st' : List Value} {t t' : eT} {uc us uc' us' : Nat} {h : zH} {Kn : zK} (hm : X.2.2.2.1 = mc) (hs : X.2.2.2.2.1 = ms) (hd : 1 ≤ X.2.2.1) (hls : ls[0]? = some (some (.ref th))) (H : e_H t h) (he : e_1 mc ms th i info cst st t uc us = some (st', t', uc', us')) (kk : ∀ h', e_H t' h' → Kn ls st' h' uc' us') : z_wp1 X pc i info cst ls st h uc us Kn := by
  have hn := H.1
  cases i <;> try (simp only [e_1] at he; cases he; done)
  case aload_n k =>
    simp only [e_1] at he
    split at he
    · rename_i hk
      cases he
      simp only [z_wp1, z_ld, hk, hls]
      exact kk h H
    · cases he
  case iconst n => simp only [e_1] at he; cases he; exact kk h H
  case bipush n => simp only [e_1] at he; cases he; exact kk h H
  case sipush n => simp only [e_1] at he; cases he; exact kk h H
  case ldc n => simp only [e_1] at he; cases he; exact kk h H
  case lconst n => simp only [e_1] at he; cases he; exact kk h H
  case dup =>
    simp only [e_1] at he
    split at he
    · cases he; exact ⟨rfl, kk h H⟩
    · cases he
  case invokespecial n =>
    simp only [e_1] at he
    split at he
    · split at he
      · rename_i hc
        cases he
        exact ⟨hd, hc, kk h H⟩
      · cases he
    · cases he
  case new n =>
    simp only [e_1] at he
    split at he
    · split at he
      · rename_i hc
        cases he
        simp only [z_wp1]
        rw [hm, hs, hn]
        refine ⟨hc.1, hc.2.1, ?_⟩
        have := kk _ (H.ad hc.2.2 _ 0)
        exact this
      · cases he
    · cases he
  case newarray n =>
    simp only [e_1] at he
    split at he
    · split at he
      · rename_i hc
        cases he
        simp only [z_wp1]
        rw [hm, hs, hn]
        exact ⟨hc.1, hc.2.1, hc.2.2.1, hc.2.2.2.1, kk _ (H.ad hc.2.2.2.2 _ _)⟩
      · cases he
    · cases he
  case anewarray n =>
    simp only [e_1] at he
    split at he
    · split at he
      · rename_i hc
        cases he
        simp only [z_wp1]
        rw [hm, hs, hn]
        exact ⟨hc.1, hc.2.1, hc.2.2.1, hc.2.2.2.1, kk _ (H.ad hc.2.2.2.2 _ _)⟩
      · cases he
    · cases he
  case putfield n =>
    simp only [e_1] at he
    split at he
    · split at he
      · rename_i hc
        cases he
        exact ⟨(H.2.1 _ _ hc).1, kk _ (H.si _ _ _)⟩
      · cases he
    · split at he
      · rename_i hc
        cases he
        exact ⟨(H.2.1 _ _ hc.1).1, hc.2, kk _ (H.si _ _ _)⟩
      · cases he
    · split at he
      · rename_i hc
        cases he
        rw [hc.2]
        exact ⟨(H.2.1 _ _ hc.1).1, kk _ (H.sj _ _)⟩
      · cases he
    · split at he
      · rename_i hc
        cases he
        exact ⟨(H.2.1 _ _ hc).1, kk _ (H.sg _ _ _)⟩
      · cases he
    · cases he
  case getfield n =>
    simp only [e_1] at he
    split at he
    · split at he
      · rename_i hc
        cases he
        refine ⟨(H.2.1 _ _ hc).1, ?_⟩
        rw [H.2.2.2.2]
        exact kk _ H
      · cases he
    · cases he
  case iastore =>
    simp only [e_1] at he
    split at he
    · split at he
      · rename_i hk
        split at he
        · rename_i hc
          cases he
          obtain ⟨q1, q2⟩ := H.2.1 _ _ hk
          exact ⟨q1, by rw [q2]; exact hc, kk _ (H.si _ _ _)⟩
        · cases he
      · cases he
    · cases he
  case aastore =>
    simp only [e_1] at he
    split at he
    · split at he
      · rename_i hk
        split at he
        · rename_i hc
          cases he
          obtain ⟨q1, q2⟩ := H.2.1 _ _ hk
          exact ⟨q1, (H.2.1 _ _ hc.2).1, by rw [q2]; exact hc.1, kk _ (H.sg _ _ _)⟩
        · cases he
      · cases he
    · cases he
theorem e_inv {X : zX} {pc i j' : Nat} {cst : Int} {ls : List (Option Value)} {b : Nat} {q : List Value} {h : zH} {uc us : Nat} {Kn : zK} (hz : z_call X j' [.ref b] q h uc us (Kn ls)) : z_wp1 X pc (.invokespecial i) [j', 0] cst ls (.ref b :: q) h uc us Kn := by
  simp only [z_wp1]
  split
  · rename_i h1 _
    simp at h1
  · rename_i h1 h2
    simp only [List.cons.injEq, and_true] at h1
    obtain ⟨rfl, rfl⟩ := h1
    simp only [List.getD_cons_succ, List.getD_cons_zero, List.drop_zero, List.cons.injEq, Value.ref.injEq] at h2
    obtain ⟨rfl, rfl⟩ := h2
    exact hz
  · rename_i h1 h2 h3
    exact absurd rfl (h3 _ _ _ _ rfl)
/-- the steps of a constructor -/
def e_s (bud : Nat → Nat × Nat) (call : Nat → Nat → eT → Option eT) (mc ms th : Nat) : List zOp → List Value → eT → Nat → Nat → Option eT
  | [], _, _, _, _ => none
  | op :: r, st, t, uc, us => match op.2.2.1, op.2.2.2.1, st with
    | .return_, _, [] => some t
    | .invokespecial _, [j', 0], .ref b :: q => if uc + (bud j').1 ≤ mc ∧ us + (bud j').2 ≤ ms ∧ e_cs q ≤ 8 then (match call j' b t with
      | some t' => e_s bud call mc ms th r q t' (uc + (bud j').1) (us + (bud j').2)
      | none => none) else none
    | .invokestatic _, [256, 2], .int v :: .ref a :: q => if e_cs q ≤ 8 ∧ t.2.1.all (fun x => !Nat.beq x.1 a) = true ∧ t.2.2.2.all (fun x => !Nat.beq x.1 a) = true then (match e_kd t a with
      | some (13, ln) => if ln < 2 ^ 31 ∧ uc ≤ mc ∧ us ≤ ms then e_s bud call mc ms th r q (e_fl t a v) uc us else none
      | _ => none) else none
    | i, info, st => match e_1 mc ms th i info op.2.2.2.2 st t uc us with
      | some x => e_s bud call mc ms th r x.1 x.2.1 x.2.2.1 x.2.2.2
      | none => none
theorem e_H.fl {t : eT} {n : Nat} {K L : Nat → Nat} {I I' : Nat → Nat → Int32} {J : Nat → Nat → Int64} {G : Nat → Nat → Value} (H : e_H t (n, K, L, I, J, G)) {a ln : Nat} {v : Int32} (hk : e_kd t a = some (13, ln)) (h1 : t.2.1.all (fun x => !Nat.beq x.1 a) = true) (h2 : ∀ q, q ≠ a → I' q = I q) (h3 : ∀ i, i < ln → I' a i = v) : e_H (e_fl t a v) (n, K, L, I', J, G) := by
  obtain ⟨a1, a2, a3, a4, a5⟩ := H
  refine ⟨a1, a2, fun p k hp => ?_, a4, a5⟩
  by_cases e : p = a
  · subst e
    rcases hp with q | q
    · exact absurd rfl (q (p, v) (by simp [e_fl]))
    · have hl : L p = ln := (a2 p _ hk).2
      have q' : k < L p := q
      rw [hl] at q'
      show I' p k = _
      rw [h3 k q']
      unfold e_I e_fl
      rw [e_find0 h1]
      simp [List.find?_cons]
  · show I' p k = _
    rw [h2 p e]
    have hp' : (∀ a ∈ t.2.2.2, a.1 ≠ p) ∨ k < L p := by
      rcases hp with q | q
      · exact Or.inl (fun b hb => q b (List.mem_cons_of_mem _ hb))
      · exact Or.inr q
    have := a3 p k hp'
    show I p k = _
    refine (show I p k = _ from this).trans ?_
    unfold e_I e_fl
    have hf : Nat.beq a p = false := by
      cases e2 : Nat.beq a p
      · rfl
      · exact absurd (Nat.eq_of_beq_eq_true e2).symm e
    simp only [List.find?_cons, hf]
set_option maxHeartbeats 4000000 in
theorem e_s_ok {X : zX} {l : Launch} {bud : Nat → Nat × Nat} {call : Nat → Nat → eT → Option eT} {mc ms th d' e : Nat} (hcall : ∀ j' b t t', call j' b t = some t' → ∀ h, e_H t h → z_Ctr l d' j' [.ref b] h (bud j').1 (bud j').2 (fun r h' => r = none ∧ e_H t' h')) (hl : X.1 = l) (hd : d' < X.2.2.1) (hm : X.2.2.2.1 = mc) (hs : X.2.2.2.2.1 = ms) : ∀ (ops : List zOp) (st : List Value) (t : eT) (uc us : Nat) (t' : eT), e_s bud call mc ms th ops st t uc us = some t' → ∀ (h : zH) (ls : List (Option Value)), ls[0]? = some (some (.ref th)) → e_H t h → (∀ h', e_H t' h' → X.2.2.2.2.2.2 none h') → zW X e ops ls st h uc us
  | [], st, t, uc, us, t', he, h, ls, hls, H, hQ => by simp [e_s] at he
  | op :: r, st, t, uc, us, t', he, h, ls, hls, H, hQ => by
    subst hl hm hs
    obtain ⟨pc, len, i, info, cst⟩ := op
    unfold e_s at he
    dsimp only at he
    show z_wp1 X pc i info cst ls st h uc us (fun ls' st' h' uc' us' => zW X e r ls' st' h' uc' us')
    split at he
    · cases he
      exact hQ h H
    · split at he
      · rename_i hc
        split at he
        · rename_i t1 h1
          refine e_inv ⟨d', _, _, _, hd, hcall _ _ _ _ h1 h H, hc.1, hc.2.1, hc.2.2, fun rr h' q => ?_⟩
          obtain ⟨rfl, q⟩ := q
          exact e_s_ok hcall rfl hd rfl rfl r _ _ _ _ t' he h' ls hls q hQ
        · cases he
      · cases he
    · split at he
      · rename_i hc
        split at he
        · rename_i ln hk
          split at he
          · rename_i hb
            obtain ⟨n, K, L, I, J, G⟩ := h
            have hkk := H.2.1 _ _ hk
            refine ⟨by simp, 0, 0, 0, _, by omega, c256 (l := X.1) (n := n) (J := J) (G := G) (I := I) hkk.1 hkk.2 hb.1 _, hb.2.1, hb.2.2, hc.1, fun rr h' q => ?_⟩
            obtain ⟨rfl, I', rfl, q1, q2⟩ := q
            exact e_s_ok hcall rfl hd rfl rfl r _ _ _ _ t' he _ ls hls (H.fl hk hc.2.1 q1 q2) hQ
          · cases he
        · cases he
      · cases he
    · split at he
      · rename_i x h1
        obtain ⟨st1, t1, uc1, us1⟩ := x
        exact e_1_ok rfl rfl (by omega) hls H h1 (fun h' q => e_s_ok hcall rfl hd rfl rfl r _ _ _ _ t' he h' ls hls q hQ)
      · cases he
def e_js : List Nat := [0, 9, 19, 29, 43, 47, 58, 72, 85, 105, 115, 159]
def e_bud (j : Nat) : Nat × Nat := match j with
  | 0 => (9, 376)
  | 9 => (3, 160)
  | 19 => (5, 48)
  | 29 => (5, 12)
  | 43 => (3, 1200)
  | 47 => (3, 852)
  | 58 => (8, 3270)
  | 72 => (4, 44)
  | 85 => (10, 1111)
  | 105 => (3, 2403)
  | 115 => (65, 7512)
  | 159 => (31, 281326)
  | _ => (0, 0)
def e_bl (j : Nat) : List zOp := match j with
  | 0 => B0_0
  | 9 => B9_0
  | 19 => B19_0
  | 29 => B29_0
  | 43 => B43_0
  | 47 => B47_0
  | 58 => B58_0
  | 72 => B72_0
  | 85 => B85_0
  | 105 => B105_0
  | 115 => B115_0
  | 159 => B159_0
  | _ => []
theorem e_bk {j : Nat} (hj : j ∈ e_js) : ∃ e, z_blk j 0 e (e_bl j) = true := by
  simp only [e_js, List.mem_cons, List.not_mem_nil, or_false] at hj
  rcases hj with rfl | rfl | rfl | rfl | rfl | rfl | rfl | rfl | rfl | rfl | rfl | rfl
  · exact ⟨_, b0_0⟩
  · exact ⟨_, b9_0⟩
  · exact ⟨_, b19_0⟩
  · exact ⟨_, b29_0⟩
  · exact ⟨_, b43_0⟩
  · exact ⟨_, b47_0⟩
  · exact ⟨_, b58_0⟩
  · exact ⟨_, b72_0⟩
  · exact ⟨_, b85_0⟩
  · exact ⟨_, b105_0⟩
  · exact ⟨_, b115_0⟩
  · exact ⟨_, b159_0⟩
theorem e_jf : ∀ j ∈ e_js, j < 258 ∧ plainName (z_y j).cls = true ∧ z_L j = 1 ∧ (z_y j).name = "<init>" := by decide +kernel
def e_c : Nat → Nat → Nat → eT → Option eT
  | 0, _, _, _ => none
  | g + 1, j, b, t => if j ∈ e_js then e_s e_bud (e_c g) (e_bud j).1 (e_bud j).2 b (e_bl j) [] t 0 0 else none
theorem e_c_ok {l : Launch} : ∀ (g j b : Nat) (t t' : eT), e_c g j b t = some t' → ∀ h, e_H t h → z_Ctr l g j [.ref b] h (e_bud j).1 (e_bud j).2 (fun r h' => r = none ∧ e_H t' h')
  | 0, j, b, t, t', he, h, H => by simp [e_c] at he
  | g + 1, j, b, t, t', he, h, H => by
    unfold e_c at he
    split at he
    · rename_i hj
      obtain ⟨f1, f2, f3, f4⟩ := e_jf j hj
      obtain ⟨e, hb⟩ := e_bk hj
      refine z_ctr f1 f2 (by unfold z_fits; rw [f3]; exact Nat.le_refl _) (fun _ => f4) (fun X hl hj' hd hm hs hsc hQ => ?_)
      refine zW_ok hj' (e_bl j) 0 _ _ _ _ _ hb ?_
      refine e_s_ok (fun j' b' t1 t2 h1 h2 H2 => e_c_ok g j' b' t1 t2 h1 h2 H2) hl (by omega) hm hs (e_bl j) [] t 0 0 t' he h _ ?_ H (fun h' q => hQ _ _ ⟨rfl, q⟩)
      rw [f3]
      rfl
    · cases he
def e_t0 : eT := ([(10, 0)], [], [], [])
def e_t1 : eT := (e_c 4 115 5 e_t0).getD ([], [], [], [])
def e_t2 : eT := (e_c 4 159 71 (e_ad e_t1 11 0)).getD ([], [], [], [])
theorem e_iss {α : Type} {o : Option α} {x : α} (h : o.isSome = true) : o = some (o.getD x) := by
  cases o with
  | none => cases h
  | some y => rfl
theorem e_r1 : e_c 4 115 5 e_t0 = some e_t1 := e_iss (by decide +kernel)
theorem e_r2 : e_c 4 159 71 (e_ad e_t1 11 0) = some e_t2 := e_iss (by decide +kernel)
theorem e_f1 : e_fr e_t1 71 = true ∧ e_t1.1.length = 66 := by decide +kernel
