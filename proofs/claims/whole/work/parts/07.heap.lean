/-! THE ROWS OF THE HEAP -/
def z_u {α : Type} (f : Nat → Nat → α) (a k : Nat) (x : α) : Nat → Nat → α := fun q i => if q = a then (if i = k then x else f a i) else f q i
def z_w {α : Type} (f : Nat → α) (a : Nat) (x : α) : Nat → α := fun q => if q = a then x else f q
theorem z_u_ne {α : Type} {f : Nat → Nat → α} {a k q : Nat} {x : α} (h : q ≠ a) : z_u f a k x q = f q := by funext i; simp [z_u, h]
theorem z_u_at {α : Type} (f : Nat → Nat → α) (a k : Nat) (x : α) (i : Nat) : z_u f a k x a i = if i = k then x else f a i := by simp [z_u]
theorem z_u_upd (f : Nat → Nat → Int32) (a k : Nat) (x : Int32) : z_u f a k x a = upd (f a) k x := by funext i; simp [z_u, upd]
theorem z_u_updL (f : Nat → Nat → Int64) (a k : Nat) (x : Int64) : z_u f a k x a = vp_updL (f a) k x := by funext i; simp [z_u, vp_updL]
theorem z_cls {c : Nat} (hc : c < 12) : z_classes[c]? = some (z_own c, z_ck c, z_num c) := by
  rcases (show c = 0 ∨ c = 1 ∨ c = 2 ∨ c = 3 ∨ c = 4 ∨ c = 5 ∨ c = 6 ∨ c = 7 ∨ c = 8 ∨ c = 9 ∨ c = 10 ∨ c = 11 by omega) with rfl | rfl | rfl | rfl | rfl | rfl | rfl | rfl | rfl | rfl | rfl | rfl <;> rfl
def z_fokB (o i c k : Nat) : Bool := decide (c < 12) && decide (k < z_num c) && decide ((z_ck c k).1 = z_own c) && (decide ((o, i, c, k, 0) ∈ z_fl) || decide ((o, i, c, k, 1) ∈ z_fn))
theorem z_fl_in {o i c k : Nat} (h : (o, i, c, k, 0) ∈ z_fl) : Cond.fieldLink (z_own o) i (z_own c) (z_ck c k).2.1 (z_ck c k).2.2.1 ∈ TW := by
  have key : ∀ r ∈ z_fl, z_fw r ∈ TW := by
    intro r hr
    simp only [z_fl, List.mem_append] at hr
    rcases hr with (hr | hr) | hr
    · exact z_at z_fl0_ok _ (List.mem_map.mpr ⟨_, hr, rfl⟩)
    · exact z_at z_fl1_ok _ (List.mem_map.mpr ⟨_, hr, rfl⟩)
    · exact z_at z_fl2_ok _ (List.mem_map.mpr ⟨_, hr, rfl⟩)
  exact key _ h
theorem z_fn_in {o i c k : Nat} (h : (o, i, c, k, 1) ∈ z_fn) : Cond.fieldLinkNest (z_own o) i (z_own c) (z_ck c k).2.1 (z_ck c k).2.2.1 "MarkCabinet" ∈ z_nest := List.mem_append_left _ (List.mem_map.mpr ⟨_, h, rfl⟩)
theorem z_conc_congr {ρ ρ' : Nat → Nat} {cy : Nat → ClassId} {h h' : zH} {q : Nat} (hK : h'.2.1 q = h.2.1 q) (hL : h'.2.2.1 q = h.2.2.1 q) (hI : h'.2.2.2.1 q = h.2.2.2.1 q) (hJ : h'.2.2.2.2.1 q = h.2.2.2.2.1 q) (hG : h'.2.2.2.2.2 q = h.2.2.2.2.2 q) (hρ : ∀ k, z_cv ρ' (h.2.2.2.2.2 q k) = z_cv ρ (h.2.2.2.2.2 q k)) : z_conc ρ' cy h' q = z_conc ρ cy h q := by
  have e1 : ∀ c, z_fs ρ' h' q c = z_fs ρ h q c := by
    intro c
    refine List.map_congr_left fun k _ => ?_
    cases z_ty c k <;> simp only [z_sv, hI, hJ, hG] <;> first | rfl | exact hρ k
  have e2 : (fun i => z_rfo ρ' (h.2.2.2.2.2 q i)) = fun i => z_rfo ρ (h.2.2.2.2.2 q i) := by
    funext i
    have := hρ i
    cases hv : h.2.2.2.2.2 q i <;> rw [hv] at this <;> simp only [z_rfo, z_cv] at this ⊢
    injection this with this
    rw [this]
  simp only [z_conc, hK, hL, hI, hJ, hG, e1, e2]
theorem z_conc_obj {ρ : Nat → Nat} {cy : Nat → ClassId} {h : zH} {p c : Nat} (hk : h.2.1 p = c) (hc : c < 12) : z_conc ρ cy h p = .inr (c, z_fs ρ h p c) := by simp only [z_conc, hk, hc, if_true]
theorem z_conc_int {ρ : Nat → Nat} {cy : Nat → ClassId} {h : zH} {p c : Nat} (hk : h.2.1 p = c) (hc : c = 12 ∨ c = 13 ∨ c = 15) : z_conc ρ cy h p = .inl (cy c, h.2.2.1 p, .inl (h.2.2.2.1 p)) := by
  rcases hc with rfl | rfl | rfl <;> simp [z_conc, hk]
theorem z_conc_long {ρ : Nat → Nat} {cy : Nat → ClassId} {h : zH} {p : Nat} (hk : h.2.1 p = 14) : z_conc ρ cy h p = .inl (cy 14, h.2.2.1 p, .inr (.inl (h.2.2.2.2.1 p))) := by simp [z_conc, hk]
theorem z_conc_ref {ρ : Nat → Nat} {cy : Nat → ClassId} {h : zH} {p : Nat} (hk : h.2.1 p = 16) : z_conc ρ cy h p = .inl (cy 16, h.2.2.1 p, .inr (.inr (.inr (.inr (fun i => z_rfo ρ (h.2.2.2.2.2 p i)))))) := by simp [z_conc, hk]
theorem z_ge5 {h : zH} (ok : z_ok h) {p c : Nat} (hk : h.2.1 p = c) (hc : c ≠ 99) : 5 ≤ p := by
  rcases Nat.lt_or_ge p 5 with q | q
  · exact absurd ((ok.2.1 p q).symm.trans hk).symm hc
  · exact q
theorem z_fs_get {ρ : Nat → Nat} {h : zH} {p c k : Nat} (hk : k < z_num c) : (z_fs ρ h p c)[k]? = some (z_cv ρ (z_sv h p k (z_ty c k))) := by simp [z_fs, List.getElem?_range hk]
theorem z_fs_set {ρ : Nat → Nat} {h h' : zH} {p c k : Nat} {v : Value} (hv : z_sv h' p k (z_ty c k) = v) (ho : ∀ i, i ≠ k → z_sv h' p i (z_ty c i) = z_sv h p i (z_ty c i)) : (z_fs ρ h p c).set k (z_cv ρ v) = z_fs ρ h' p c := by
  apply List.ext_getElem?
  intro i
  by_cases hi : i < z_num c
  · by_cases hik : i = k
    · subst hik
      rw [List.getElem?_set_self (by simpa [z_fs] using hi), z_fs_get hi, hv]
    · rw [List.getElem?_set_ne (fun z => hik z.symm), z_fs_get hi, z_fs_get hi, ho i hik]
  · rw [List.getElem?_eq_none (by simp [z_fs]; omega), List.getElem?_eq_none (by simp [z_fs]; omega)]
theorem z_same {s : State} {c k : Nat} (hT : (z_ck c k).1 = z_own c) : ∀ x, s.fieldFound? (z_ck c k).1 (z_ck c k).2.1 (z_ck c k).2.2.1 = some x → s.fieldFound? (z_own c) (z_ck c k).2.1 (z_ck c k).2.2.1 = some x := fun x hx => by rw [← hT]; exact hx
/-- a row of ints, longs or references changes -/
abbrev z_hI (h : zH) (f : Nat → Nat → Int32) : zH := (h.1, h.2.1, h.2.2.1, f, h.2.2.2.2.1, h.2.2.2.2.2)
abbrev z_hJ (h : zH) (f : Nat → Nat → Int64) : zH := (h.1, h.2.1, h.2.2.1, h.2.2.2.1, f, h.2.2.2.2.2)
abbrev z_hG (h : zH) (f : Nat → Nat → Value) : zH := (h.1, h.2.1, h.2.2.1, h.2.2.2.1, h.2.2.2.2.1, f)
/-- a new place -/
abbrev z_hN (h : zH) (kd len : Nat) : zH := (h.1 + 1, z_w h.2.1 h.1 kd, z_w h.2.2.1 h.1 len, z_w h.2.2.2.1 h.1 (fun _ => 0), z_w h.2.2.2.2.1 h.1 (fun _ => 0), z_w h.2.2.2.2.2 h.1 (fun _ => .null))
def z_ii : FieldType → Bool
  | .int | .boolean | .char => true
  | _ => false
def z_rr : FieldType → Bool
  | .object _ | .array _ => true
  | _ => false
theorem z_ok_I {h : zH} (ok : z_ok h) (f : Nat → Nat → Int32) : z_ok (z_hI h f) := ok
theorem z_ok_J {h : zH} (ok : z_ok h) (f : Nat → Nat → Int64) : z_ok (z_hJ h f) := ok
theorem z_ok_N {h : zH} (ok : z_ok h) (kd len : Nat) : z_ok (z_hN h kd len) := by
  have h5 := ok.1
  refine ⟨by show 5 ≤ h.1 + 1; omega, fun p hp => ?_, fun p k => ?_⟩
  · show z_w h.2.1 h.1 kd p = 99
    rw [z_w, if_neg (by omega)]
    exact ok.2.1 p hp
  · show z_w h.2.2.2.2.2 h.1 (fun _ => .null) p k = .null ∨ _
    unfold z_w
    by_cases e : p = h.1
    · rw [if_pos e]; exact Or.inl rfl
    · rw [if_neg e]
      rcases ok.2.2 p k with h1 | ⟨a, h1, h2⟩
      · exact Or.inl h1
      · refine Or.inr ⟨a, ?_, ?_⟩
        · show a < h.1 + 1
          omega
        · show z_w h.2.2.2.2.2 h.1 (fun _ => .null) p k = .ref a
          rw [z_w, if_neg e]
          exact h2
section ZHP
variable {l : Launch} {j d mc ms : Nat} {SC : Option (Nat × (Nat → Int32))} {Qf : Option Value → zH → Prop} {pc : Nat} {ls : List (Option Value)} {st : List Value} {h : zH} {uc us : Nat}
theorem z_s_get {i c k a : Nat} (hd : decode (z_C j) pc = .ok (.getfield i, 3)) (hf : z_fokB (z_O j) i c k = true) (hk : h.2.1 a = c) (kk : z_V l j d mc ms SC Qf (pc + 3) ls (z_sv h a k (z_ty c k) :: st) h uc us) : z_V l j d mc ms SC Qf pc ls (.ref a :: st) h uc us := by
  intro p e R s m args below meth c0 D cy A ρ0 n0 Z hC ρ H locs arr hS hL
  simp only [z_fokB, Bool.and_eq_true, Bool.or_eq_true, decide_eq_true_eq] at hf
  obtain ⟨⟨⟨hc, hkn⟩, hT⟩, hlink⟩ := hf
  have ok := hS.2.2.2.2.1
  have ha : a < h.1 := z_sc_head hS.2.2.2.2.2.2.1
  have h5 := z_ge5 ok hk (by omega)
  have hget := z_ws_get (ρ := ρ) (cy := cy) h5 ha
  rw [z_conc_obj hk hc] at hget
  have hsc : z_sc h.1 (z_sv h a k (z_ty c k)) := by
    have hg : z_sc h.1 (h.2.2.2.2.2 a k) := by
      rcases ok.2.2 a k with q | ⟨b, q1, q2⟩
      · rw [q]; trivial
      · rw [q2]; exact q1
    cases z_ty c k <;> first | exact hg | trivial
  have K := kk p e R s m args below meth c0 D cy A ρ0 n0 Z hC ρ H locs arr (hS.st (z_sc_cons hsc (z_sc_tail hS.2.2.2.2.2.2.1))) hL
  rcases hlink with hl | hl
  · exact va_get (D := D) (ci := c) (C := z_own c) (T := z_ck c) (N := z_num c) hC.1 hC.2.1 hC.2.2.2.2.1 (z_cin c _ (z_cls hc)) hC.2.2.2.1 hC.2.2.2.2.2.2.2.1 hS.2.2.1 (a - 5) hget (z_cls hc) k hkn (hC.2.2.2.2.1 _ (z_fl_in hl)) (z_same hT) (z_fs_get hkn) hd K
  · exact va_getN (D := D) (ci := c) (C := z_own c) (T := z_ck c) (N := z_num c) hC.1 hC.2.1 hC.2.2.2.2.1 (z_cin c _ (z_cls hc)) hC.2.2.2.1 hC.2.2.2.2.2.2.2.1 hS.2.2.1 (a - 5) hget (z_cls hc) k hkn (va_Nw.use rfl (hC.2.2.2.2.2.2.1.1 _ (z_fn_in hl))) (z_same hT) (z_fs_get hkn) hd K
/-- a put, with the new heap's picture as premises -/
theorem z_put0 {i c k a : Nat} {v : Value} {h' : zH} (hd : decode (z_C j) pc = .ok (.putfield i, 3)) (hf : z_fokB (z_O j) i c k = true) (hfin : (z_ck c k).2.2.2 = false ∨ (z_Kd j = 2 ∧ z_O j = c ∧ (z_O j, i, c, k, 0) ∈ z_fl)) (hk : h.2.1 a = c)
    (hn : ∀ ρ, narrow (z_ty c k) (z_cv ρ v) = z_cv ρ v) (hfit : ∀ ρ, fits (z_ty c k) (z_cv ρ v) = true) (hn1 : h'.1 = h.1) (ok' : z_ok h → z_ok h') (ho : ∀ (ρ : Nat → Nat) (cy : Nat → ClassId) (q : Nat), q ≠ a → z_conc ρ cy h' q = z_conc ρ cy h q) (hk' : h'.2.1 a = c) (hv : z_sv h' a k (z_ty c k) = v) (hov : ∀ x, x ≠ k → z_sv h' a x (z_ty c x) = z_sv h a x (z_ty c x))
    (kk : z_V l j d mc ms SC Qf (pc + 3) ls st h' uc us) : z_V l j d mc ms SC Qf pc ls (v :: .ref a :: st) h uc us := by
  intro p e R s m args below meth c0 D cy A ρ0 n0 Z hC ρ H locs arr hS hL
  simp only [z_fokB, Bool.and_eq_true, Bool.or_eq_true, decide_eq_true_eq] at hf
  obtain ⟨⟨⟨hc, hkn⟩, hT⟩, hlink⟩ := hf
  have ok := hS.2.2.2.2.1
  have ha : a < h.1 := z_sc_head (z_sc_tail hS.2.2.2.2.2.2.1)
  have h5 := z_ge5 ok hk (by omega)
  have hget := z_ws_get (ρ := ρ) (cy := cy) h5 ha
  rw [z_conc_obj hk hc] at hget
  have hset := z_ws_set (ρ := ρ) (cy := cy) (p := a) hn1 h5 (ho ρ cy)
  rw [z_conc_obj hk' hc, ← z_fs_set (ρ := ρ) (h := h) hv hov] at hset
  have K : ∀ (H1 : Heap) (locs1 : List Loc), va_P D z_classes ((z_ws ρ cy h).set (a - 5) (ρ a, .inr (c, (z_fs ρ h a c).set k (z_cv ρ v)))) H1 → va_D A ((z_ws ρ cy h).set (a - 5) (ρ a, .inr (c, (z_fs ρ h a c).set k (z_cv ρ v)))) → va_S A s.heap H1 locs1 → W p l e R s m args below meth c0 H1 locs1 uc us Z (F0 m (pc + 3) arr (st.map (z_cv ρ))) := by
    intro H1 locs1 hP1 hD1 hS1
    rw [hset] at hP1 hD1
    exact kk p e R s m args below meth c0 D cy A ρ0 n0 Z hC ρ H1 locs1 arr ⟨hS.1, by rw [hn1]; exact hS.2.1, hP1, hD1, ok' ok, hS1, by rw [hn1]; exact z_sc_tail (z_sc_tail hS.2.2.2.2.2.2.1), hS.2.2.2.2.2.2.2⟩ (by rw [hn1]; exact hL)
  have hlen : k < (z_fs ρ h a c).length := by simpa [z_fs] using hkn
  rcases hfin with hfin | ⟨hin, ho2, hl2⟩
  · rcases hlink with hl | hl
    · exact va_put (D := D) (ci := c) (C := z_own c) (T := z_ck c) (N := z_num c) hC.1 hC.2.1 hC.2.2.2.2.1 (z_cin c _ (z_cls hc)) (z_ty c) (z_cty c _ (z_cls hc)) (z_cnm c _ (z_cls hc)) hC.2.2.2.1 hC.2.2.2.2.2.2.2.1 hS.2.2.1 hS.2.2.2.1 hS.2.2.2.2.2.1 (a - 5) hget (z_cls hc) k hkn (hC.2.2.2.2.1 _ (z_fl_in hl)) (z_same hT) hfin (z_cty c _ (z_cls hc) k hkn) (hn ρ) (hfit ρ) hlen hd K
    · exact va_putN (D := D) (ci := c) (C := z_own c) (T := z_ck c) (N := z_num c) hC.1 hC.2.1 hC.2.2.2.2.1 (z_cin c _ (z_cls hc)) (z_ty c) (z_cty c _ (z_cls hc)) (z_cnm c _ (z_cls hc)) hC.2.2.2.1 hC.2.2.2.2.2.2.2.1 hS.2.2.1 hS.2.2.2.1 hS.2.2.2.2.2.1 (a - 5) hget (z_cls hc) k hkn (va_Nw.use rfl (hC.2.2.2.2.2.2.1.1 _ (z_fn_in hl))) (z_same hT) hfin (z_cty c _ (z_cls hc) k hkn) (hn ρ) (hfit ρ) hlen hd K
  · rcases Bool.eq_false_or_eq_true (z_ck c k).2.2.2 with hfin | hfin
    · exact va_putF (D := D) (ci := c) (C := z_own c) (T := z_ck c) (N := z_num c) hC.1 hC.2.1 hC.2.2.2.2.1 (z_cin c _ (z_cls hc)) (z_ty c) (z_cty c _ (z_cls hc)) (z_cnm c _ (z_cls hc)) hC.2.2.2.1 hC.2.2.2.2.2.2.2.1 hS.2.2.1 hS.2.2.2.1 hS.2.2.2.2.2.1 (a - 5) hget (z_cls hc) k hkn (hC.2.2.2.2.1 _ (z_fl_in hl2)) (z_same hT) hfin (hC.2.2.2.2.2.1 hin) (by rw [ho2]; exact hT) (z_cty c _ (z_cls hc) k hkn) (hn ρ) (hfit ρ) hlen hd K
    · exact va_put (D := D) (ci := c) (C := z_own c) (T := z_ck c) (N := z_num c) hC.1 hC.2.1 hC.2.2.2.2.1 (z_cin c _ (z_cls hc)) (z_ty c) (z_cty c _ (z_cls hc)) (z_cnm c _ (z_cls hc)) hC.2.2.2.1 hC.2.2.2.2.2.2.2.1 hS.2.2.1 hS.2.2.2.1 hS.2.2.2.2.2.1 (a - 5) hget (z_cls hc) k hkn (hC.2.2.2.2.1 _ (z_fl_in hl2)) (z_same hT) hfin (z_cty c _ (z_cls hc) k hkn) (hn ρ) (hfit ρ) hlen hd K
def z_pok (j i c k : Nat) : Bool := z_fokB (z_O j) i c k && (!(z_ck c k).2.2.2 || (decide (z_Kd j = 2) && decide (z_O j = c) && decide ((z_O j, i, c, k, 0) ∈ z_fl)))
theorem z_pok_spec {j i c k : Nat} (h : z_pok j i c k = true) : z_fokB (z_O j) i c k = true ∧ ((z_ck c k).2.2.2 = false ∨ (z_Kd j = 2 ∧ z_O j = c ∧ (z_O j, i, c, k, 0) ∈ z_fl)) := by
  simp only [z_pok, Bool.and_eq_true, Bool.or_eq_true, Bool.not_eq_true', decide_eq_true_eq] at h
  exact ⟨h.1, h.2.elim Or.inl (fun q => Or.inr ⟨q.1.1, q.1.2, q.2⟩)⟩
def z_fitI : FieldType → Int32 → Prop
  | .int, _ => True
  | .boolean, x => x = 0 ∨ x = 1
  | _, _ => False
theorem z_s_putI {i c k a : Nat} {x : Int32} (hd : decode (z_C j) pc = .ok (.putfield i, 3)) (hf : z_pok j i c k = true) (hk : h.2.1 a = c) (hx : z_fitI (z_ty c k) x) (kk : z_V l j d mc ms SC Qf (pc + 3) ls st (z_hI h (z_u h.2.2.2.1 a k x)) uc us) : z_V l j d mc ms SC Qf pc ls (.int x :: .ref a :: st) h uc us := by
  obtain ⟨hf, hfin⟩ := z_pok_spec hf
  refine z_put0 (h' := z_hI h (z_u h.2.2.2.1 a k x)) hd hf hfin hk (fun ρ => ?_) (fun ρ => ?_) rfl (fun ok => ok) (fun ρ cy q hq => z_conc_congr rfl rfl (z_u_ne hq) rfl rfl (fun _ => rfl)) hk ?_ (fun y hy => ?_) kk
  · cases hz : z_ty c k <;> rw [hz] at hx <;> first | exact hx.elim | rfl | (rcases hx with rfl | rfl <;> rfl)
  · cases hz : z_ty c k <;> rw [hz] at hx <;> first | exact hx.elim | rfl | (rcases hx with rfl | rfl <;> rfl)
  · cases hz : z_ty c k <;> rw [hz] at hx <;> first | exact hx.elim | simp [z_sv, z_u]
  · cases hz : z_ty c y <;> simp [z_sv, z_u, hy]
theorem z_s_putJ {i c k a : Nat} {x : Int64} (hd : decode (z_C j) pc = .ok (.putfield i, 3)) (hf : z_pok j i c k = true) (ht : z_ty c k = .long) (hk : h.2.1 a = c) (kk : z_V l j d mc ms SC Qf (pc + 3) ls st (z_hJ h (z_u h.2.2.2.2.1 a k x)) uc us) : z_V l j d mc ms SC Qf pc ls (.long x :: .ref a :: st) h uc us := by
  obtain ⟨hf, hfin⟩ := z_pok_spec hf
  refine z_put0 (h' := z_hJ h (z_u h.2.2.2.2.1 a k x)) hd hf hfin hk (fun ρ => by rw [ht]; rfl) (fun ρ => by rw [ht]; rfl) rfl (fun ok => ok) (fun ρ cy q hq => z_conc_congr rfl rfl rfl (z_u_ne hq) rfl (fun _ => rfl)) hk (by rw [ht]; simp [z_sv, z_u]) (fun y hy => ?_) kk
  cases hz : z_ty c y <;> simp [z_sv, z_u, hy]
theorem z_s_putG {i c k a b : Nat} (hd : decode (z_C j) pc = .ok (.putfield i, 3)) (hf : z_pok j i c k = true) (ht : z_rr (z_ty c k) = true) (hk : h.2.1 a = c) (kk : z_V l j d mc ms SC Qf (pc + 3) ls st (z_hG h (z_u h.2.2.2.2.2 a k (.ref b))) uc us) : z_V l j d mc ms SC Qf pc ls (.ref b :: .ref a :: st) h uc us := by
  obtain ⟨hf, hfin⟩ := z_pok_spec hf
  intro p e R s m args below meth c0 D cy A ρ0 n0 Z hC ρ H locs arr hS hL
  have hb : b < h.1 := z_sc_head hS.2.2.2.2.2.2.1
  refine z_put0 (v := .ref b) (h' := z_hG h (z_u h.2.2.2.2.2 a k (.ref b))) hd hf hfin hk (fun ρ => ?_) (fun ρ => ?_) rfl (fun ok => ⟨ok.1, ok.2.1, fun q x => ?_⟩) (fun ρ cy q hq => z_conc_congr rfl rfl rfl rfl (z_u_ne hq) (fun _ => rfl)) hk ?_ (fun y hy => ?_) kk p e R s m args below meth c0 D cy A ρ0 n0 Z hC ρ H locs arr hS hL
  · cases hz : z_ty c k <;> rw [hz] at ht <;> first | (cases ht; done) | rfl
  · cases hz : z_ty c k <;> rw [hz] at ht <;> first | (cases ht; done) | rfl
  · show z_u h.2.2.2.2.2 a k (.ref b) q x = .null ∨ ∃ a', a' < h.1 ∧ z_u h.2.2.2.2.2 a k (.ref b) q x = .ref a'
    unfold z_u
    split
    · rename_i e1
      split
      · exact Or.inr ⟨b, hb, rfl⟩
      · exact ok.2.2 a x
    · exact ok.2.2 q x
  · cases hz : z_ty c k <;> rw [hz] at ht <;> first | (cases ht; done) | simp [z_sv, z_u]
  · cases hz : z_ty c y <;> simp [z_sv, z_u, hy]
theorem z_s_iaload {a : Nat} {i : Int32} (hd : decode (z_C j) pc = .ok (.iaload, 1)) (hk : h.2.1 a = 13) (hi : vp_in i (h.2.2.1 a)) (kk : z_V l j d mc ms SC Qf (pc + 1) ls (.int (h.2.2.2.1 a i.toNatClampNeg) :: st) h uc us) : z_V l j d mc ms SC Qf pc ls (.int i :: .ref a :: st) h uc us := by
  intro p e R s m args below meth c0 D cy A ρ0 n0 Z hC ρ H locs arr hS hL
  have ha : a < h.1 := z_sc_head (z_sc_tail hS.2.2.2.2.2.2.1)
  have hget := z_ws_get (ρ := ρ) (cy := cy) (z_ge5 hS.2.2.2.2.1 hk (by decide)) ha
  rw [z_conc_int hk (by decide)] at hget
  exact va_iald hC.1 hC.2.1 hC.2.2.2.2.2.2.2.1 hS.2.2.1 (a - 5) 1 hget rfl hi hd (kk p e R s m args below meth c0 D cy A ρ0 n0 Z hC ρ H locs arr (hS.st (z_sc_cons trivial (z_sc_tail (z_sc_tail hS.2.2.2.2.2.2.1)))) hL)
theorem z_s_caload {a : Nat} {i : Int32} (hd : decode (z_C j) pc = .ok (.caload, 1)) (hk : h.2.1 a = 12) (hi : vp_in i (h.2.2.1 a)) (kk : z_V l j d mc ms SC Qf (pc + 1) ls (.int (h.2.2.2.1 a i.toNatClampNeg) :: st) h uc us) : z_V l j d mc ms SC Qf pc ls (.int i :: .ref a :: st) h uc us := by
  intro p e R s m args below meth c0 D cy A ρ0 n0 Z hC ρ H locs arr hS hL
  have ha : a < h.1 := z_sc_head (z_sc_tail hS.2.2.2.2.2.2.1)
  have hget := z_ws_get (ρ := ρ) (cy := cy) (z_ge5 hS.2.2.2.2.1 hk (by decide)) ha
  rw [z_conc_int hk (by decide)] at hget
  exact va_cald hC.1 hC.2.1 hC.2.2.2.2.2.2.2.1 hS.2.2.1 (a - 5) 0 hget rfl hi hd (kk p e R s m args below meth c0 D cy A ρ0 n0 Z hC ρ H locs arr (hS.st (z_sc_cons trivial (z_sc_tail (z_sc_tail hS.2.2.2.2.2.2.1)))) hL)
theorem z_s_baload {a : Nat} {i : Int32} (hd : decode (z_C j) pc = .ok (.baload, 1)) (hk : h.2.1 a = 15) (hi : vp_in i (h.2.2.1 a)) (kk : z_V l j d mc ms SC Qf (pc + 1) ls (.int (h.2.2.2.1 a i.toNatClampNeg) :: st) h uc us) : z_V l j d mc ms SC Qf pc ls (.int i :: .ref a :: st) h uc us := by
  intro p e R s m args below meth c0 D cy A ρ0 n0 Z hC ρ H locs arr hS hL
  have ha : a < h.1 := z_sc_head (z_sc_tail hS.2.2.2.2.2.2.1)
  have hget := z_ws_get (ρ := ρ) (cy := cy) (z_ge5 hS.2.2.2.2.1 hk (by decide)) ha
  rw [z_conc_int hk (by decide)] at hget
  exact va_zald hC.1 hC.2.1 hC.2.2.2.2.2.2.2.1 hS.2.2.1 (a - 5) 3 hget rfl hi hd (kk p e R s m args below meth c0 D cy A ρ0 n0 Z hC ρ H locs arr (hS.st (z_sc_cons trivial (z_sc_tail (z_sc_tail hS.2.2.2.2.2.2.1)))) hL)
theorem z_s_laload {a : Nat} {i : Int32} (hd : decode (z_C j) pc = .ok (.laload, 1)) (hk : h.2.1 a = 14) (hi : vp_in i (h.2.2.1 a)) (kk : z_V l j d mc ms SC Qf (pc + 1) ls (.long (h.2.2.2.2.1 a i.toNatClampNeg) :: st) h uc us) : z_V l j d mc ms SC Qf pc ls (.int i :: .ref a :: st) h uc us := by
  intro p e R s m args below meth c0 D cy A ρ0 n0 Z hC ρ H locs arr hS hL
  have ha : a < h.1 := z_sc_head (z_sc_tail hS.2.2.2.2.2.2.1)
  have hget := z_ws_get (ρ := ρ) (cy := cy) (z_ge5 hS.2.2.2.2.1 hk (by decide)) ha
  rw [z_conc_long hk] at hget
  exact va_lald hC.1 hC.2.1 hC.2.2.2.2.2.2.2.1 hS.2.2.1 (a - 5) 2 hget rfl hi hd (kk p e R s m args below meth c0 D cy A ρ0 n0 Z hC ρ H locs arr (hS.st (z_sc_cons trivial (z_sc_tail (z_sc_tail hS.2.2.2.2.2.2.1)))) hL)
theorem z_s_iastore {a : Nat} {i : Int32} {x : Int32} (hd : decode (z_C j) pc = .ok (.iastore, 1)) (hk : h.2.1 a = 13) (hi : vp_in i (h.2.2.1 a)) (kk : z_V l j d mc ms SC Qf (pc + 1) ls st (z_hI h (z_u h.2.2.2.1 a i.toNatClampNeg x)) uc us) : z_V l j d mc ms SC Qf pc ls (.int x :: .int i :: .ref a :: st) h uc us := by
  intro p e R s m args below meth c0 D cy A ρ0 n0 Z hC ρ H locs arr hS hL
  have ha : a < h.1 := z_sc_head (z_sc_tail (z_sc_tail hS.2.2.2.2.2.2.1))
  have h5 := z_ge5 hS.2.2.2.2.1 hk (by decide)
  have hget := z_ws_get (ρ := ρ) (cy := cy) h5 ha
  rw [z_conc_int hk (by decide)] at hget
  have hset := z_ws_set (ρ := ρ) (cy := cy) (h := h) (h' := z_hI h (z_u h.2.2.2.1 a i.toNatClampNeg x)) (p := a) rfl h5 (fun q hq => z_conc_congr rfl rfl (z_u_ne hq) rfl rfl (fun _ => rfl))
  rw [z_conc_int (h := z_hI h (z_u h.2.2.2.1 a i.toNatClampNeg x)) hk (by decide)] at hset
  refine va_iast hC.1 hC.2.1 hC.2.2.2.2.2.2.2.1 hS.2.2.1 hS.2.2.2.1 hS.2.2.2.2.2.1 (a - 5) 1 hget rfl hi hd (fun H1 locs1 hP1 hD1 hS1 => ?_)
  have hset' : (z_ws ρ cy h).set (a - 5) (ρ a, .inl (cy 13, h.2.2.1 a, .inl (upd (h.2.2.2.1 a) i.toNatClampNeg x))) = z_ws ρ cy (z_hI h (z_u h.2.2.2.1 a i.toNatClampNeg x)) := by
    rw [← hset]; simp only [z_u_upd]
  rw [hset'] at hP1 hD1
  exact kk p e R s m args below meth c0 D cy A ρ0 n0 Z hC ρ H1 locs1 arr ⟨hS.1, hS.2.1, hP1, hD1, hS.2.2.2.2.1, hS1, z_sc_tail (z_sc_tail (z_sc_tail hS.2.2.2.2.2.2.1)), hS.2.2.2.2.2.2.2⟩ hL
theorem z_s_castore {a : Nat} {i : Int32} {x : Int32} (hd : decode (z_C j) pc = .ok (.castore, 1)) (hk : h.2.1 a = 12) (hi : vp_in i (h.2.2.1 a)) (hx : vp_nar .char x = x) (kk : z_V l j d mc ms SC Qf (pc + 1) ls st (z_hI h (z_u h.2.2.2.1 a i.toNatClampNeg x)) uc us) : z_V l j d mc ms SC Qf pc ls (.int x :: .int i :: .ref a :: st) h uc us := by
  intro p e R s m args below meth c0 D cy A ρ0 n0 Z hC ρ H locs arr hS hL
  have ha : a < h.1 := z_sc_head (z_sc_tail (z_sc_tail hS.2.2.2.2.2.2.1))
  have h5 := z_ge5 hS.2.2.2.2.1 hk (by decide)
  have hget := z_ws_get (ρ := ρ) (cy := cy) h5 ha
  rw [z_conc_int hk (by decide)] at hget
  have hset := z_ws_set (ρ := ρ) (cy := cy) (h := h) (h' := z_hI h (z_u h.2.2.2.1 a i.toNatClampNeg x)) (p := a) rfl h5 (fun q hq => z_conc_congr rfl rfl (z_u_ne hq) rfl rfl (fun _ => rfl))
  rw [z_conc_int (h := z_hI h (z_u h.2.2.2.1 a i.toNatClampNeg x)) hk (by decide)] at hset
  refine va_cast hC.1 hC.2.1 hC.2.2.2.2.2.2.2.1 hS.2.2.1 hS.2.2.2.1 hS.2.2.2.2.2.1 (a - 5) 0 hget rfl hi hd (fun H1 locs1 hP1 hD1 hS1 => ?_)
  rw [hx] at hP1 hD1
  have hset' : (z_ws ρ cy h).set (a - 5) (ρ a, .inl (cy 12, h.2.2.1 a, .inl (upd (h.2.2.2.1 a) i.toNatClampNeg x))) = z_ws ρ cy (z_hI h (z_u h.2.2.2.1 a i.toNatClampNeg x)) := by
    rw [← hset]; simp only [z_u_upd]
  rw [hset'] at hP1 hD1
  exact kk p e R s m args below meth c0 D cy A ρ0 n0 Z hC ρ H1 locs1 arr ⟨hS.1, hS.2.1, hP1, hD1, hS.2.2.2.2.1, hS1, z_sc_tail (z_sc_tail (z_sc_tail hS.2.2.2.2.2.2.1)), hS.2.2.2.2.2.2.2⟩ hL
theorem z_s_bastore {a : Nat} {i : Int32} {x : Int32} (hd : decode (z_C j) pc = .ok (.bastore, 1)) (hk : h.2.1 a = 15) (hi : vp_in i (h.2.2.1 a)) (hx : vp_nar .boolean x = x) (kk : z_V l j d mc ms SC Qf (pc + 1) ls st (z_hI h (z_u h.2.2.2.1 a i.toNatClampNeg x)) uc us) : z_V l j d mc ms SC Qf pc ls (.int x :: .int i :: .ref a :: st) h uc us := by
  intro p e R s m args below meth c0 D cy A ρ0 n0 Z hC ρ H locs arr hS hL
  have ha : a < h.1 := z_sc_head (z_sc_tail (z_sc_tail hS.2.2.2.2.2.2.1))
  have h5 := z_ge5 hS.2.2.2.2.1 hk (by decide)
  have hget := z_ws_get (ρ := ρ) (cy := cy) h5 ha
  rw [z_conc_int hk (by decide)] at hget
  have hset := z_ws_set (ρ := ρ) (cy := cy) (h := h) (h' := z_hI h (z_u h.2.2.2.1 a i.toNatClampNeg x)) (p := a) rfl h5 (fun q hq => z_conc_congr rfl rfl (z_u_ne hq) rfl rfl (fun _ => rfl))
  rw [z_conc_int (h := z_hI h (z_u h.2.2.2.1 a i.toNatClampNeg x)) hk (by decide)] at hset
  refine va_zast hC.1 hC.2.1 hC.2.2.2.2.2.2.2.1 hS.2.2.1 hS.2.2.2.1 hS.2.2.2.2.2.1 (a - 5) 3 hget rfl hi hd (fun H1 locs1 hP1 hD1 hS1 => ?_)
  rw [hx] at hP1 hD1
  have hset' : (z_ws ρ cy h).set (a - 5) (ρ a, .inl (cy 15, h.2.2.1 a, .inl (upd (h.2.2.2.1 a) i.toNatClampNeg x))) = z_ws ρ cy (z_hI h (z_u h.2.2.2.1 a i.toNatClampNeg x)) := by
    rw [← hset]; simp only [z_u_upd]
  rw [hset'] at hP1 hD1
  exact kk p e R s m args below meth c0 D cy A ρ0 n0 Z hC ρ H1 locs1 arr ⟨hS.1, hS.2.1, hP1, hD1, hS.2.2.2.2.1, hS1, z_sc_tail (z_sc_tail (z_sc_tail hS.2.2.2.2.2.2.1)), hS.2.2.2.2.2.2.2⟩ hL
theorem z_s_lastore {a : Nat} {i : Int32} {x : Int64} (hd : decode (z_C j) pc = .ok (.lastore, 1)) (hk : h.2.1 a = 14) (hi : vp_in i (h.2.2.1 a)) (kk : z_V l j d mc ms SC Qf (pc + 1) ls st (z_hJ h (z_u h.2.2.2.2.1 a i.toNatClampNeg x)) uc us) : z_V l j d mc ms SC Qf pc ls (.long x :: .int i :: .ref a :: st) h uc us := by
  intro p e R s m args below meth c0 D cy A ρ0 n0 Z hC ρ H locs arr hS hL
  have ha : a < h.1 := z_sc_head (z_sc_tail (z_sc_tail hS.2.2.2.2.2.2.1))
  have h5 := z_ge5 hS.2.2.2.2.1 hk (by decide)
  have hget := z_ws_get (ρ := ρ) (cy := cy) h5 ha
  rw [z_conc_long hk] at hget
  have hset := z_ws_set (ρ := ρ) (cy := cy) (h := h) (h' := z_hJ h (z_u h.2.2.2.2.1 a i.toNatClampNeg x)) (p := a) rfl h5 (fun q hq => z_conc_congr rfl rfl rfl (z_u_ne hq) rfl (fun _ => rfl))
  rw [z_conc_long (h := z_hJ h (z_u h.2.2.2.2.1 a i.toNatClampNeg x)) hk] at hset
  refine va_last hC.1 hC.2.1 hC.2.2.2.2.2.2.2.1 hS.2.2.1 hS.2.2.2.1 hS.2.2.2.2.2.1 (a - 5) 2 hget rfl hi hd (fun H1 locs1 hP1 hD1 hS1 => ?_)
  have hset' : (z_ws ρ cy h).set (a - 5) (ρ a, .inl (cy 14, h.2.2.1 a, .inr (.inl (vp_updL (h.2.2.2.2.1 a) i.toNatClampNeg x)))) = z_ws ρ cy (z_hJ h (z_u h.2.2.2.2.1 a i.toNatClampNeg x)) := by
    rw [← hset]; simp only [z_u_updL]
  rw [hset'] at hP1 hD1
  exact kk p e R s m args below meth c0 D cy A ρ0 n0 Z hC ρ H1 locs1 arr ⟨hS.1, hS.2.1, hP1, hD1, hS.2.2.2.2.1, hS1, z_sc_tail (z_sc_tail (z_sc_tail hS.2.2.2.2.2.2.1)), hS.2.2.2.2.2.2.2⟩ hL
def z_tix (k : Nat) : Nat := k - 12
theorem z_s_alen {a : Nat} (hd : decode (z_C j) pc = .ok (.arraylength, 1)) (hk : 12 ≤ h.2.1 a ∧ h.2.1 a ≤ 16) (kk : z_V l j d mc ms SC Qf (pc + 1) ls (.int (Int32.ofNat (h.2.2.1 a)) :: st) h uc us) : z_V l j d mc ms SC Qf pc ls (.ref a :: st) h uc us := by
  intro p e R s m args below meth c0 D cy A ρ0 n0 Z hC ρ H locs arr hS hL
  have ha : a < h.1 := z_sc_head hS.2.2.2.2.2.2.1
  have hget := z_ws_get (ρ := ρ) (cy := cy) (z_ge5 hS.2.2.2.2.1 rfl (by omega)) ha
  have K := kk p e R s m args below meth c0 D cy A ρ0 n0 Z hC ρ H locs arr (hS.st (z_sc_cons trivial (z_sc_tail hS.2.2.2.2.2.2.1))) hL
  rcases (show h.2.1 a = 12 ∨ h.2.1 a = 13 ∨ h.2.1 a = 14 ∨ h.2.1 a = 15 ∨ h.2.1 a = 16 by omega) with e1 | e1 | e1 | e1 | e1
  · rw [z_conc_int e1 (by decide)] at hget
    exact va_alen hC.1 hC.2.1 hC.2.2.2.2.2.2.2.1 hS.2.2.1 (a - 5) 0 hget (ty := .char) rfl rfl hd K
  · rw [z_conc_int e1 (by decide)] at hget
    exact va_alen hC.1 hC.2.1 hC.2.2.2.2.2.2.2.1 hS.2.2.1 (a - 5) 1 hget (ty := .int) rfl rfl hd K
  · rw [z_conc_long e1] at hget
    exact va_alen hC.1 hC.2.1 hC.2.2.2.2.2.2.2.1 hS.2.2.1 (a - 5) 2 hget (ty := .long) rfl rfl hd K
  · rw [z_conc_int e1 (by decide)] at hget
    exact va_alen hC.1 hC.2.1 hC.2.2.2.2.2.2.2.1 hS.2.2.1 (a - 5) 3 hget (ty := .boolean) rfl rfl hd K
  · rw [z_conc_ref e1] at hget
    exact va_alen hC.1 hC.2.1 hC.2.2.2.2.2.2.2.1 hS.2.2.1 (a - 5) 4 hget (ty := .object RX3) rfl rfl hd K
/-- the law's script -/
theorem z_s_sld {x : Nat × (Nat → Int32)} {i : Int32} (hd : decode (z_C j) pc = .ok (.iaload, 1)) (hx : SC = some x) (hi : vp_in i x.1) (kk : z_V l j d mc ms SC Qf (pc + 1) ls (.int (x.2 i.toNatClampNeg) :: st) h uc us) : z_V l j d mc ms SC Qf pc ls (.int i :: .ref 0 :: st) h uc us := by
  intro p e R s m args below meth c0 D cy A ρ0 n0 Z hC ρ H locs arr hS hL
  obtain ⟨h1, h2, h3⟩ := hC.2.2.2.2.2.2.2.2.2.2.2.1 x hx
  have e0 : ρ 0 = ρ0 0 := hS.1 0 (by have := hC.2.2.2.2.2.2.2.2.2.2.1; omega)
  have K := kk p e R s m args below meth c0 D cy A ρ0 n0 Z hC ρ H locs arr (hS.st (z_sc_cons trivial (z_sc_tail (z_sc_tail hS.2.2.2.2.2.2.1)))) hL
  show W _ _ _ _ _ _ _ _ _ _ _ _ _ _ _ (F0 m pc arr (.int i :: .ref (ρ 0) :: st.map (z_cv ρ)))
  rw [e0]
  exact va_sld hC.1 hC.2.1 h1 h2 h3 hS.2.2.2.2.2.1 hi hd K
theorem z_s_slen {x : Nat × (Nat → Int32)} (hd : decode (z_C j) pc = .ok (.arraylength, 1)) (hx : SC = some x) (kk : z_V l j d mc ms SC Qf (pc + 1) ls (.int (Int32.ofNat x.1) :: st) h uc us) : z_V l j d mc ms SC Qf pc ls (.ref 0 :: st) h uc us := by
  intro p e R s m args below meth c0 D cy A ρ0 n0 Z hC ρ H locs arr hS hL
  obtain ⟨h1, h2, h3⟩ := hC.2.2.2.2.2.2.2.2.2.2.2.1 x hx
  have e0 : ρ 0 = ρ0 0 := hS.1 0 (by have := hC.2.2.2.2.2.2.2.2.2.2.1; omega)
  have K := kk p e R s m args below meth c0 D cy A ρ0 n0 Z hC ρ H locs arr (hS.st (z_sc_cons trivial (z_sc_tail hS.2.2.2.2.2.2.1))) hL
  show W _ _ _ _ _ _ _ _ _ _ _ _ _ _ _ (F0 m pc arr (.ref (ρ 0) :: st.map (z_cv ρ)))
  rw [e0]
  exact va_slen hC.1 hC.2.1 h1 h2 h3 hS.2.2.2.2.2.1 hd K
end ZHP
