/-! small words for walks -/
theorem z_f0 : ((0 : Fin 4) : Nat) = 0 := rfl
theorem z_f1 : ((1 : Fin 4) : Nat) = 1 := rfl
theorem z_f2 : ((2 : Fin 4) : Nat) = 2 := rfl
theorem z_f3 : ((3 : Fin 4) : Nat) = 3 := rfl
theorem z_ua {α : Type} (f : Nat → Nat → α) (a k : Nat) (x : α) (q i : Nat) : z_u f a k x q i = if q = a then (if i = k then x else f a i) else f q i := rfl
theorem z_i10 : ((1 : Int32) = 0) = False := by simp
theorem z_i01 : ((0 : Int32) = 1) = False := by simp
/-- a contract with one answer and one heap behind it -/
def z_D (l : Launch) (d j : Nat) (as : List Value) (h : zH) (v : Option Value) (h1 : zH) : Prop := z_Ctr l d j as h 0 0 (fun r h' => r = v ∧ h' = h1)
theorem z_callD {X : zX} {d' j' : Nat} {as rest : List Value} {h h1 : zH} {uc us : Nat} {K : List Value → zH → Nat → Nat → Prop} {v : Option Value} (hct : z_D X.1 d' j' as h v h1) (hd : d' < X.2.2.1) (hm : uc ≤ X.2.2.2.1) (hs : us ≤ X.2.2.2.2.1) (hrs : (rest.map (fun v => v.category)).sum ≤ 8) (hk : K (v.toList ++ rest) h1 uc us) : z_call X j' as rest h uc us K :=
  ⟨d', 0, 0, _, hd, hct, hm, hs, hrs, fun r h' q => by obtain ⟨rfl, rfl⟩ := q; exact hk⟩
theorem z_callQ {X : zX} {d' j' : Nat} {as rest : List Value} {h : zH} {uc us : Nat} {K : List Value → zH → Nat → Nat → Prop} {Q : Option Value → zH → Prop} (hct : z_Ctr X.1 d' j' as h 0 0 Q) (hd : d' < X.2.2.1) (hm : uc ≤ X.2.2.2.1) (hs : us ≤ X.2.2.2.2.1) (hrs : (rest.map (fun v => v.category)).sum ≤ 8) (hk : ∀ r h', Q r h' → K (r.toList ++ rest) h' uc us) : z_call X j' as rest h uc us K :=
  ⟨d', 0, 0, Q, hd, hct, hm, hs, hrs, fun r h' q => hk r h' q⟩
theorem z_toInt_0 : (0 : Int32).toInt = 0 := by decide
/-- a truth as an int -/
def z_b (b : Prop) [Decidable b] : Int32 := if b then 1 else 0
theorem z_b01 (b : Prop) [Decidable b] : z_b b = 0 ∨ z_b b = 1 := by unfold z_b; split <;> simp
theorem z_b1 {b : Prop} [Decidable b] (h : b) : z_b b = 1 := if_pos h
theorem z_b0 {b : Prop} [Decidable b] (h : ¬ b) : z_b b = 0 := if_neg h
theorem z_b_ne {b : Prop} [Decidable b] : ¬ z_b b = 0 ↔ b := by unfold z_b; split <;> simp_all
theorem z_b_eq {b : Prop} [Decidable b] : z_b b = 0 ↔ ¬ b := by unfold z_b; split <;> simp_all
