/-! A CONTRACT OUT OF A WALK; Math.max, Math.abs; arrays of references -/
theorem z_ent_args (ρ : Nat → Nat) : ∀ (as : List Value) (k i : Nat) (v : Value), (as.flatMap (fun v => if v.category = 2 then [some v, none] else [some v]))[i]? = some (some v) → (k + i, z_cv ρ v) ∈ lv_args k (as.map (z_cv ρ))
  | [], k, i, v, h => by simp at h
  | a :: as, k, i, v, h => by
    simp only [List.map_cons, lv_args, z_cv_cat]
    by_cases hc : a.category = 2
    · rw [List.flatMap_cons, if_pos hc] at h
      rw [if_pos hc]
      match i, h with
      | 0, h =>
        simp at h
        subst h
        exact List.mem_cons_self
      | 1, h => simp at h
      | i + 2, h =>
        have h2 : (as.flatMap (fun v => if v.category = 2 then [some v, none] else [some v]))[i]? = some (some v) := by simpa using h
        have := z_ent_args ρ as (k + 2) i v h2
        rw [show k + 2 + i = k + (i + 2) by omega] at this
        exact List.mem_cons_of_mem _ this
    · rw [List.flatMap_cons, if_neg hc] at h
      rw [if_neg hc]
      match i, h with
      | 0, h =>
        simp at h
        subst h
        exact List.mem_cons_self
      | i + 1, h =>
        have h2 : (as.flatMap (fun v => if v.category = 2 then [some v, none] else [some v]))[i]? = some (some v) := by simpa using h
        have := z_ent_args ρ as (k + 1) i v h2
        rw [show k + 1 + i = k + (i + 1) by omega] at this
        exact List.mem_cons_of_mem _ this
theorem z_ent_len : ∀ (as : List Value) (ρ : Nat → Nat), (lg_sl (as.map (z_cv ρ))).length = (as.flatMap (fun v => if v.category = 2 then [some v, none] else [some v])).length
  | [], _ => rfl
  | a :: as, ρ => by
    have := z_ent_len as ρ
    simp only [lg_sl] at this
    simp only [lg_sl, List.map_cons, List.flatMap_cons, List.length_append, z_cv_cat, this]
    by_cases hc : a.category = 2 <;> simp [hc]
theorem z_ent_mem : ∀ (as : List Value) (i : Nat) (v : Value), (as.flatMap (fun v => if v.category = 2 then [some v, none] else [some v]))[i]? = some (some v) → v ∈ as := by
  intro as i v h
  have hm := List.mem_of_getElem? h
  obtain ⟨a, ha, hv⟩ := List.mem_flatMap.mp hm
  by_cases hc : a.category = 2
  · rw [if_pos hc] at hv
    simp at hv
    rw [hv]; exact ha
  · rw [if_neg hc] at hv
    simp at hv
    rw [hv]; exact ha
def z_fits (j : Nat) (as : List Value) : Prop := (as.flatMap (fun v => if v.category = 2 then [some v, none] else [some v])).length ≤ z_L j
theorem z_met {l : Launch} {d j mc ms : Nat} {as : List Value} {h : zH} {Q : Option Value → zH → Prop} (hj : j < 258) (hpl : plainName (z_y j).cls = true) (hfit : z_fits j as) (hname : z_Kd j = 2 → (z_y j).name = "<init>") (hV : z_V l j d mc ms none Q 0 (z_ent (z_L j) as) [] h 0 0) : z_Ctr l d j as h mc ms Q := by
  intro hok hsc D cy ρ sz
  refine Met.ofW (cc := z_C j) (maxL := z_L j) (ret := z_R j) hpl rfl ?_
  intro p e s m args below meth c s₁ B hml hv
  obtain ⟨rfl, hsz, hP, hD0, hK, hE⟩ := hv
  subst hsz
  have hts := atoms_spec (ws := z_WS j) B.pre
  have hown : s.vm.findClass (z_y j).cls = some m.cls := findClass_of_methodNamed B.named
  rw [(z_mf hj).2.2.2.2.2.2.2.1] at hown
  have hle : (lg_sl (as.map (z_cv ρ))).length ≤ z_L j := by rw [z_ent_len]; exact hfit
  have hl := lv_entry (as.map (z_cv ρ)) (n := z_L j) hle
  rw [lg_entry_eq]
  refine hV p e _ s m _ below meth c D cy (z_AA ρ cy h s.heap.size) ρ h.1 _ ⟨B.exec, B.bytes, hml, hown, fun w hw => hts w (List.mem_cons_of_mem _ hw), fun hk => ?_, hE, hK, fun q hq => Or.inr hq, ⟨Nat.le_refl _, Nat.le_refl _, Nat.le_refl _, Nat.le_refl _⟩, hok.1, fun x hx => (by cases hx), ?_⟩ ρ s.heap [] _ ⟨fun _ _ => rfl, Nat.le_refl _, hP, hD0.self, hok, va_S.rf, fun v hv => (by cases hv), Nat.zero_le _, Nat.zero_le _⟩ ?_
  · rw [← hname hk]; exact (name_of_methodNamed B.named B.method).1
  · intro ρ' h' H locs arr i pc r uc us hd hri hq hS
    refine W.widen (k := mc) (n := ms) hS.2.2.2.2.2.2.2.1 hS.2.2.2.2.2.2.2.2 ?_
    have hq' : ∀ t : State, t.heap = H → z_Qc D cy ρ h s.heap.size Q (as.map (z_cv ρ)).toArray s (.returned (r.map (z_cv ρ'))) t := fun t ht =>
      ⟨⟨r, h', ρ', rfl, hq, hS.1, hS.2.1, by rw [ht]; exact hS.2.2.1, hS.2.2.2.1, hS.2.2.2.2.1, hS.2.2.2.2.2.2.1⟩, hS.2.2.2.2.2.1.F ht⟩
    have hlo := hS.2.2.2.2.2.1.2.2
    unfold z_RI at hri
    split at hri
    · obtain ⟨ty, v, h1, rfl, h3⟩ := hri
      exact W.zret B.exec B.bytes (B.returns.trans h1) h3 (fun t ht _ => hq' t ht) hlo hd B.notSynchronized
    · obtain ⟨v, h1, rfl⟩ := hri
      exact W.lret B.exec B.bytes (B.returns.trans h1) (fun t ht _ => hq' t ht) hlo hd B.notSynchronized
    · obtain ⟨rt, a, h1, h2, rfl⟩ := hri
      exact W.aret (v := .ref (ρ' a)) B.exec B.bytes (B.returns.trans h1) h2 (Or.inr ⟨_, rfl⟩) (fun t ht _ => hq' t ht) hlo hd B.notSynchronized
    · obtain ⟨h1, rfl⟩ := hri
      exact W.vret B.exec B.bytes (B.returns.trans h1) (fun t ht _ => hq' t ht) hlo hd B.notSynchronized
    · exact hri.elim
  · have hlen : (z_ent (z_L j) as).length = z_L j := by
      unfold z_fits at hfit
      simp only [z_ent, List.length_append, List.length_replicate]
      omega
    refine ⟨hl.1, hl.2.1, hlen, fun i v hi => ?_⟩
    have hi2 : (as.flatMap (fun v => if v.category = 2 then [some v, none] else [some v]))[i]? = some (some v) := by
      unfold z_ent at hi
      by_cases hlt : i < (as.flatMap (fun v => if v.category = 2 then [some v, none] else [some v])).length
      · rw [List.getElem?_append_left hlt] at hi
        exact hi
      · rw [List.getElem?_append_right (by omega)] at hi
        rw [List.getElem?_replicate] at hi
        split at hi <;> cases hi
    refine ⟨?_, hsc v (z_ent_mem as i v hi2)⟩
    have := z_ent_args ρ as 0 i v hi2
    rw [Nat.zero_add] at this
    exact hl.2.2 _ this
theorem z_mx : z_y 245 = Lib.Math.max.name := by decide +kernel
theorem z_ab : z_y 244 = Lib.Math.abs.name := by decide +kernel
theorem z_mxw : ∀ w ∈ ([.static Lib.Math.max.name, .initialized "java/lang/Math", .static Lib.Math.abs.name] : List Cond), w ∈ TW := z_at (is := [839, 111, 1214]) (by decide +kernel)
theorem z_mxc : Cond.code Lib.Math.max.name Lib.Math.max.code 2 (some .int) ∈ TW := z_TW_at (i := 840) (by decide +kernel) (by decide +kernel)
theorem z_abc : Cond.code Lib.Math.abs.name Lib.Math.abs.code 1 (some .int) ∈ TW := z_TW_at (i := 1215) (by decide +kernel) (by decide +kernel)
section ZMA
variable {l : Launch} {j d mc ms : Nat} {SC : Option (Nat × (Nat → Int32))} {Qf : Option Value → zH → Prop} {pc : Nat} {ls : List (Option Value)} {st : List Value} {h : zH} {uc us : Nat}
theorem z_s_max {i : Nat} {x y : Int32} (hd : decode (z_C j) pc = .ok (.invokestatic i, 3)) (hl : (z_O j, i, 245) ∈ z_ml) (h1 : 1 ≤ d) (hrs : (st.map (fun v => v.category)).sum ≤ 8) (kk : z_V l j d mc ms SC Qf (pc + 3) ls (.int (if x < y then y else x) :: st) h uc us) : z_V l j d mc ms SC Qf pc ls (.int y :: .int x :: st) h uc us := by
  intro p e R s m args below meth c D cy A ρ0 n0 Z hC ρ H locs arr hS hL
  have hR := hC.2.2.2.2.2.2.2.2.2.1
  have hsum := z_sum (ρ := ρ) hrs
  have hlk := z_ml_in hl
  rw [z_mx] at hlk
  exact va_mmax hC.1 hC.2.1 (hC.2.2.1.trans hL.1.symm) hC.2.2.2.1 (hC.2.2.2.2.1 _ hlk) (hC.2.2.2.2.1 _ (z_mxw _ (by simp))) (hC.2.2.2.2.1 _ (z_mxw _ (by simp))) (hC.2.2.2.2.1 _ z_mxc) (by omega) (by omega) (Nat.le_trans hS.2.2.2.2.2.2.2.1 hR.2.2.1) (Nat.le_trans hS.2.2.2.2.2.2.2.2 hR.2.2.2) hd (kk p e R s m args below meth c D cy A ρ0 n0 Z hC ρ H locs arr (hS.st (z_sc_cons trivial (z_sc_tail (z_sc_tail hS.2.2.2.2.2.2.1)))) hL)
theorem z_s_abs {i : Nat} {x : Int32} (hd : decode (z_C j) pc = .ok (.invokestatic i, 3)) (hl : (z_O j, i, 244) ∈ z_ml) (h1 : 1 ≤ d) (hrs : (st.map (fun v => v.category)).sum ≤ 8) (kk : z_V l j d mc ms SC Qf (pc + 3) ls (.int (if 0 ≤ x then x else 0 - x) :: st) h uc us) : z_V l j d mc ms SC Qf pc ls (.int x :: st) h uc us := by
  intro p e R s m args below meth c D cy A ρ0 n0 Z hC ρ H locs arr hS hL
  have hR := hC.2.2.2.2.2.2.2.2.2.1
  have hsum := z_sum (ρ := ρ) hrs
  have hlk := z_ml_in hl
  rw [z_ab] at hlk
  exact va_mabs hC.1 hC.2.1 (hC.2.2.1.trans hL.1.symm) hC.2.2.2.1 (hC.2.2.2.2.1 _ hlk) (hC.2.2.2.2.1 _ (z_mxw _ (by simp))) (hC.2.2.2.2.1 _ (z_mxw _ (by simp))) (hC.2.2.2.2.1 _ z_abc) (by omega) (by omega) (Nat.le_trans hS.2.2.2.2.2.2.2.1 hR.2.2.1) (Nat.le_trans hS.2.2.2.2.2.2.2.2 hR.2.2.2) hd (kk p e R s m args below meth c D cy A ρ0 n0 Z hC ρ H locs arr (hS.st (z_sc_cons trivial (z_sc_tail hS.2.2.2.2.2.2.1))) hL)
theorem z_s_aaload {a : Nat} {i : Int32} (hd : decode (z_C j) pc = .ok (.aaload, 1)) (hk : h.2.1 a = 16) (hi : vp_in i (h.2.2.1 a)) (kk : z_V l j d mc ms SC Qf (pc + 1) ls (h.2.2.2.2.2 a i.toNatClampNeg :: st) h uc us) : z_V l j d mc ms SC Qf pc ls (.int i :: .ref a :: st) h uc us := by
  intro p e R s m args below meth c0 D cy A ρ0 n0 Z hC ρ H locs arr hS hL
  have ha : a < h.1 := z_sc_head (z_sc_tail hS.2.2.2.2.2.2.1)
  have hget := z_ws_get (ρ := ρ) (cy := cy) (z_ge5 hS.2.2.2.2.1 hk (by decide)) ha
  rw [z_conc_ref hk] at hget
  have hg := hS.2.2.2.2.1.2.2 a i.toNatClampNeg
  have hsc : z_sc h.1 (h.2.2.2.2.2 a i.toNatClampNeg) := by
    rcases hg with q | ⟨b, q1, q2⟩
    · rw [q]; trivial
    · rw [q2]; exact q1
  have hcv : va_rf (z_rfo ρ (h.2.2.2.2.2 a i.toNatClampNeg)) = z_cv ρ (h.2.2.2.2.2 a i.toNatClampNeg) := by
    rcases hg with q | ⟨b, q1, q2⟩
    · rw [q]; rfl
    · rw [q2]; rfl
  refine va_aldq (C := RX3) hC.1 hC.2.1 hC.2.2.2.2.2.2.2.1 hS.2.2.1 (a - 5) 4 hget rfl hi hd ?_
  rw [hcv]
  exact kk p e R s m args below meth c0 D cy A ρ0 n0 Z hC ρ H locs arr (hS.st (z_sc_cons hsc (z_sc_tail (z_sc_tail hS.2.2.2.2.2.2.1)))) hL
theorem z_s_aastore {a b : Nat} {i : Int32} (hd : decode (z_C j) pc = .ok (.aastore, 1)) (hk : h.2.1 a = 16) (hkb : h.2.1 b = 3) (hi : vp_in i (h.2.2.1 a)) (kk : z_V l j d mc ms SC Qf (pc + 1) ls st (z_hG h (z_u h.2.2.2.2.2 a i.toNatClampNeg (.ref b))) uc us) : z_V l j d mc ms SC Qf pc ls (.ref b :: .int i :: .ref a :: st) h uc us := by
  intro p e R s m args below meth c0 D cy A ρ0 n0 Z hC ρ H locs arr hS hL
  have ok := hS.2.2.2.2.1
  have hb : b < h.1 := z_sc_head hS.2.2.2.2.2.2.1
  have ha : a < h.1 := z_sc_head (z_sc_tail (z_sc_tail hS.2.2.2.2.2.2.1))
  have h5 := z_ge5 ok hk (by decide)
  have hget := z_ws_get (ρ := ρ) (cy := cy) h5 ha
  rw [z_conc_ref hk] at hget
  have hgetb := z_ws_get (ρ := ρ) (cy := cy) (z_ge5 ok hkb (by decide)) hb
  rw [z_conc_obj hkb (by decide)] at hgetb
  have hset := z_ws_set (ρ := ρ) (cy := cy) (h := h) (h' := z_hG h (z_u h.2.2.2.2.2 a i.toNatClampNeg (.ref b))) (p := a) rfl h5 (fun q hq => z_conc_congr rfl rfl rfl rfl (z_u_ne hq) (fun _ => rfl))
  rw [z_conc_ref (h := z_hG h (z_u h.2.2.2.2.2 a i.toNatClampNeg (.ref b))) hk] at hset
  refine va_astq (r := (z_own 3, z_ck 3, z_num 3)) hC.1 hC.2.1 hC.2.2.2.2.2.2.2.1 hS.2.2.1 hS.2.2.2.1 hS.2.2.2.2.2.1 (a - 5) 4 (b - 5) 3 hget rfl hgetb (z_cls (by decide)) hi hd (fun H1 locs1 hP1 hD1 hS1 => ?_)
  have e1 : (fun x => z_rfo ρ (z_u h.2.2.2.2.2 a i.toNatClampNeg (.ref b) a x)) = va_up (fun x => z_rfo ρ (h.2.2.2.2.2 a x)) i.toNatClampNeg (some (ρ b)) := by
    funext x
    simp only [z_u_at, va_up]
    split <;> rfl
  rw [show (z_hG h (z_u h.2.2.2.2.2 a i.toNatClampNeg (.ref b))).2.2.2.2.2 = z_u h.2.2.2.2.2 a i.toNatClampNeg (.ref b) from rfl, e1] at hset
  rw [hset] at hP1 hD1
  refine kk p e R s m args below meth c0 D cy A ρ0 n0 Z hC ρ H1 locs1 arr ⟨hS.1, hS.2.1, hP1, hD1, ⟨ok.1, ok.2.1, fun q x => ?_⟩, hS1, z_sc_tail (z_sc_tail (z_sc_tail hS.2.2.2.2.2.2.1)), hS.2.2.2.2.2.2.2⟩ hL
  show z_u h.2.2.2.2.2 a i.toNatClampNeg (.ref b) q x = .null ∨ ∃ a', a' < h.1 ∧ z_u h.2.2.2.2.2 a i.toNatClampNeg (.ref b) q x = .ref a'
  unfold z_u
  split
  · split
    · exact Or.inr ⟨b, hb, rfl⟩
    · exact ok.2.2 a x
  · exact ok.2.2 q x
theorem z_s_anewarray {i : Nat} {n : Int32} (hd : decode (z_C j) pc = .ok (.anewarray i, 3)) (hl : (z_O j, i, 3) ∈ z_nl) (hn : ¬ n < 0) (hN : n.toNatClampNeg ≤ 65536) (hc : uc + 1 ≤ mc) (hs : us + n.toNatClampNeg ≤ ms) (kk : z_V l j d mc ms SC Qf (pc + 3) ls (.ref h.1 :: st) (z_hN h 16 n.toNatClampNeg) (uc + 1) (us + n.toNatClampNeg)) : z_V l j d mc ms SC Qf pc ls (.int n :: st) h uc us := by
  intro p e R s m args below meth c D cy A ρ0 n0 Z hC ρ H locs arr hS hL
  have hR := hC.2.2.2.2.2.2.2.2.2.1
  have hK := hC.2.2.2.2.2.2.2.1
  refine va_newq (C := RX3) hC.1 hC.2.1 hC.2.2.2.1 (hC.2.2.2.2.1 _ (z_nl_in hl).1) hC.2.2.2.2.2.2.1.2.1 hK hS.2.2.1 hS.2.2.2.1 hS.2.2.2.2.2.1 hC.2.2.2.2.2.2.2.2.1 hn rfl (by omega) (Nat.le_trans hc hR.2.2.1) (Nat.le_trans hs hR.2.2.2) hd (fun q cA H1 hK1 hP1 hD1 hS1 => ?_)
  have e1 : cA = cy 16 := by
    obtain ⟨_, _, -, -, -, r1⟩ := (hK1.2 5 (cA, .object RX3) rfl).2
    obtain ⟨_, _, -, -, -, r2⟩ := (hK.2 4 (cy 16, .object RX3) rfl).2
    exact Option.some.inj (r1.symm.trans r2)
  subst e1
  exact z_alloc kk hC hS (z_sc_tail hS.2.2.2.2.2.2.1) hL hc hs q H1 _ (by rw [z_conc_ref (by simp [z_w])]; simp [z_w, z_rfo]) hP1 hD1 hS1
end ZMA
