/-! The model: markOf, the marks' codes reckoned on a stack -/
def m_push (kn : Int32 → Int32) (c : Int32 × Int32) : Int32 × Int32 :=
  (if c.1 = 12 then z_b (¬ (if c.1 = 0 then c.2 else kn c.2) = -1) else if c.1 = 0 then c.2 else kn c.2, z_b (¬ c.1 = 1 ∨ ¬ (if c.1 = 0 then c.2 else kn c.2) = -1))
def m_bin (w : Int32) (x y : Int32 × Int32) : Int32 × Int32 :=
  (if 6 ≤ w ∧ z_b (¬ x.2 = 0 ∧ ¬ y.2 = 0) = 0 then 2 else m_two w x.1 y.1, z_b (¬ x.2 = 0 ∧ ¬ y.2 = 0))
def m_step (kn : Int32 → Int32) (c : Int32 × Int32) (st : List (Int32 × Int32)) : Option (List (Int32 × Int32)) :=
  if c.1 = 0 ∨ c.1 = 1 ∨ c.1 = 12 then (if st.length < 60 then some (m_push kn c :: st) else none)
  else if c.1 = 9 then (match st with
    | x :: r => some ((if x.1 < 2 then 1 - x.1 else x.1, x.2) :: r)
    | [] => none)
  else if c.1 = 10 ∨ c.1 = 11 then (match st with
    | y :: x :: r => some ((if c.1 = 10 then m_both x.1 y.1 else m_either x.1 y.1, x.2) :: r)
    | _ => none)
  else (match st with
    | y :: x :: r => if c.1 = 5 ∧ y.1 = 0 then none else some (m_bin c.1 x y :: r)
    | _ => none)
def m_ev (kn : Int32 → Int32) : List (Int32 × Int32) → List (Int32 × Int32) → Option (List (Int32 × Int32))
  | [], st => some st
  | c :: cs, st => match m_step kn c st with
    | some st' => m_ev kn cs st'
    | none => none
theorem m_step_p {kn : Int32 → Int32} {c : Int32 × Int32} {st : List (Int32 × Int32)} (h : c.1 = 0 ∨ c.1 = 1 ∨ c.1 = 12) : m_step kn c st = if st.length < 60 then some (m_push kn c :: st) else none := by unfold m_step; rw [if_pos h]
theorem m_step_n {kn : Int32 → Int32} {c x : Int32 × Int32} {r : List (Int32 × Int32)} (h1 : ¬ (c.1 = 0 ∨ c.1 = 1 ∨ c.1 = 12)) (h2 : c.1 = 9) : m_step kn c (x :: r) = some ((if x.1 < 2 then 1 - x.1 else x.1, x.2) :: r) := by unfold m_step; rw [if_neg h1, if_pos h2]
theorem m_step_n0 {kn : Int32 → Int32} {c : Int32 × Int32} (h1 : ¬ (c.1 = 0 ∨ c.1 = 1 ∨ c.1 = 12)) (h2 : c.1 = 9) : m_step kn c [] = none := by unfold m_step; rw [if_neg h1, if_pos h2]
theorem m_step_j {kn : Int32 → Int32} {c x y : Int32 × Int32} {r : List (Int32 × Int32)} (h1 : ¬ (c.1 = 0 ∨ c.1 = 1 ∨ c.1 = 12)) (h2 : ¬ c.1 = 9) (h3 : c.1 = 10 ∨ c.1 = 11) : m_step kn c (y :: x :: r) = some ((if c.1 = 10 then m_both x.1 y.1 else m_either x.1 y.1, x.2) :: r) := by unfold m_step; rw [if_neg h1, if_neg h2, if_pos h3]
theorem m_step_b {kn : Int32 → Int32} {c x y : Int32 × Int32} {r : List (Int32 × Int32)} (h1 : ¬ (c.1 = 0 ∨ c.1 = 1 ∨ c.1 = 12)) (h2 : ¬ c.1 = 9) (h3 : ¬ (c.1 = 10 ∨ c.1 = 11)) : m_step kn c (y :: x :: r) = if c.1 = 5 ∧ y.1 = 0 then none else some (m_bin c.1 x y :: r) := by unfold m_step; rw [if_neg h1, if_neg h2, if_neg h3]
theorem m_step_s {kn : Int32 → Int32} {c : Int32 × Int32} {st : List (Int32 × Int32)} (h1 : ¬ (c.1 = 0 ∨ c.1 = 1 ∨ c.1 = 12)) (h2 : ¬ c.1 = 9) (hl : st.length < 2) : m_step kn c st = none := by
  match st, hl with
  | [], _ => unfold m_step; rw [if_neg h1, if_neg h2]; split <;> rfl
  | [_], _ => unfold m_step; rw [if_neg h1, if_neg h2]; split <;> rfl
theorem m_ev_c {kn : Int32 → Int32} {c : Int32 × Int32} {cs st st' : List (Int32 × Int32)} (h : m_step kn c st = some st') : m_ev kn (c :: cs) st = m_ev kn cs st' := by simp only [m_ev, h]
theorem m_ev_n {kn : Int32 → Int32} {c : Int32 × Int32} {cs st : List (Int32 × Int32)} (h : m_step kn c st = none) : m_ev kn (c :: cs) st = none := by simp only [m_ev, h]
/-- the stack's two rows hold st -/
def m_SR (I : Nat → Nat → Int32) (st : List (Int32 × Int32)) : Prop := st.length ≤ 60 ∧ ∀ t x, st[t]? = some x → I 84 (st.length - 1 - t) = x.1 ∧ I 85 (st.length - 1 - t) = x.2
theorem m_SR_nil {I : Nat → Nat → Int32} : m_SR I [] := ⟨by simp, fun t x h => by simp at h⟩
/-- the top of a stack is put anew, or laid on it -/
theorem m_SR_put {I I' : Nat → Nat → Int32} {r : List (Int32 × Int32)} {v b : Int32} (h : ∀ t x, r[t]? = some x → I 84 (r.length - 1 - t) = x.1 ∧ I 85 (r.length - 1 - t) = x.2) (hl : r.length < 60) (h1 : I' 84 r.length = v) (h2 : I' 85 r.length = b) (h3 : ∀ k, k < r.length → I' 84 k = I 84 k ∧ I' 85 k = I 85 k) : m_SR I' ((v, b) :: r) := by
  refine ⟨by simp; omega, fun t x hx => ?_⟩
  cases t with
  | zero =>
    rw [List.getElem?_cons_zero] at hx
    cases hx
    simp only [List.length_cons, Nat.add_sub_cancel, Nat.sub_zero]
    exact ⟨h1, h2⟩
  | succ t =>
    rw [List.getElem?_cons_succ] at hx
    have hlt := (List.getElem?_eq_some_iff.mp hx).1
    have e : (((v, b) :: r).length - 1 - (t + 1)) = r.length - 1 - t := by simp only [List.length_cons]; omega
    rw [e, (h3 _ (by omega)).1, (h3 _ (by omega)).2]
    exact h t x hx
theorem m_SR_tail {I : Nat → Nat → Int32} {x : Int32 × Int32} {r : List (Int32 × Int32)} (h : m_SR I (x :: r)) : (I 84 r.length = x.1 ∧ I 85 r.length = x.2) ∧ (∀ t y, r[t]? = some y → I 84 (r.length - 1 - t) = y.1 ∧ I 85 (r.length - 1 - t) = y.2) ∧ r.length < 60 := by
  refine ⟨?_, fun t y hy => ?_, by have := h.1; simp at this; omega⟩
  · have := h.2 0 x rfl
    simpa using this
  · have := h.2 (t + 1) y (by simpa using hy)
    have e : ((x :: r).length - 1 - (t + 1)) = r.length - 1 - t := by simp only [List.length_cons]; omega
    rw [e] at this
    exact this
theorem z_nb1 : (vp_nar .boolean 1 = 1) = True := by simp; rfl
theorem z_nb0 : (vp_nar .boolean 0 = 0) = True := by simp; rfl
/-- a mark's codes lie in the model's rows -/
def m_code (I : Nat → Nat → Int32) (i : Nat) (cs : List (Int32 × Int32)) : Prop := ∃ a : Nat, I 79 i = nI a ∧ I 80 i = nI (a + cs.length) ∧ a + cs.length ≤ 900 ∧ ∀ t x, cs[t]? = some x → I 81 (a + t) = x.1 ∧ I 82 (a + t) = x.2
section M7
variable {l : Launch} {n : Nat} {K L : Nat → Nat} {I : Nat → Nat → Int32} {J : Nat → Nat → Int64} {G : Nat → Nat → Value}
def m_off (I I' : Nat → Nat → Int32) : Prop := ∀ q, q ≠ 84 → q ≠ 85 → I' q = I q
theorem m_off_4 {I I' : Nat → Nat → Int32} (h : m_off I I') (k : Nat) (v : Int32) : m_off I (z_u I' 84 k v) := fun q h1 h2 => by rw [z_u_ne h1]; exact h q h1 h2
theorem m_off_5 {I I' : Nat → Nat → Int32} (h : m_off I I') (k : Nat) (v : Int32) : m_off I (z_u I' 85 k v) := fun q h1 h2 => by rw [z_u_ne h2]; exact h q h1 h2
theorem c196_loop {X : zX} (hS : SS K L G) (hj : X.2.1 = 196) (hd : X.2.2.1 = 2) (hm : X.2.2.2.1 = 0) (hs : X.2.2.2.2.1 = 0) {i c : Nat} {f k d v b : Int32} {cs : List (Int32 × Int32)} {a : Nat} (hc : I 71 2 = nI c) (hc4 : c ≤ 400) (hi : i < 12) (ha : I 80 i = nI (a + cs.length)) (ha9 : a + cs.length ≤ 900) (hcs : ∀ t x, cs[t]? = some x → I 81 (a + t) = x.1 ∧ I 82 (a + t) = x.2)
    (hQ : ∀ r h', (r = some (.int v) ∧ ∃ I', h' = (n, K, L, I', J, G) ∧ m_off I I') → X.2.2.2.2.2.2 r h') : ∀ (rest : List (Int32 × Int32)) (t : Nat) (st : List (Int32 × Int32)) (I' : Nat → Nat → Int32), cs.drop t = rest → t ≤ cs.length → m_off I I' → m_SR I' st → m_ev (fun m => mI_known I c k f m d) rest st = some [(v, b)] →
      zV X 11 [some (.ref 71), some (.int (nI i)), some (.int f), some (.int k), some (.int d), some (.int (nI st.length)), some (.int (nI (a + t))), none, none] [] (n, K, L, I', J, G) 0 0
  | [], t, st, I', hr, ht, ho, hst, hev => by
    have e1 : t = cs.length := by
      have : (cs.drop t).length = 0 := by rw [hr]; rfl
      rw [List.length_drop] at this
      omega
    subst e1
    have g80 : I' 80 = I 80 := ho 80 (by decide) (by decide)
    have ei : (nI i).toNatClampNeg = i := nI_clamp (by omega)
    refine zW_ok hj B196_11 11 _ _ _ _ _ b196_11 ?_
    simp only [B196_11, zW, z_wp1, z_ld, z_f0, z_f1, z_f2, z_f3, List.getElem?_cons_zero, List.getElem?_cons_succ, true_and, and_true, Int32.reduceOfInt, z_i10, z_i01, Int32.reduceLT, Int32.reduceLE, Int32.reduceAdd, Int32.reduceSub, z_set, z_set2, z_kil, List.set_cons_zero, List.set_cons_succ, List.take_succ_cons, List.take_zero, List.drop_succ_cons, List.drop_zero, List.reverse_cons, List.reverse_nil, List.nil_append, List.cons_append, List.getD_cons_succ, List.getD_cons_zero, List.getD_nil, List.length_cons, List.length_nil, List.map_cons, List.map_nil, List.sum_cons, List.sum_nil, Nat.reduceAdd, Nat.reduceLeDiff, Value.category, Option.toList, true_or, or_true, z_ua, ↓reduceIte, Nat.reduceEqDiff, eq_self, not_true_eq_false, not_false_eq_true, false_implies, true_implies, Classical.not_not, Nat.le_refl, Nat.zero_le, sK71 hS, sG71_19 hS, sK80 hS, sL80 hS, sG71_20 hS, sK81 hS, sL81 hS, g80, ei, ha, vp_in_nI (show i < 24 by omega) (by omega)]
    try dsimp only
    refine ⟨fun _ => ?_, fun hc => absurd (nI_le (Nat.le_refl _) (by omega)) hc⟩
    have e2 : st = [(v, b)] := by simpa [m_ev] using hev
    subst e2
    have e3 := (m_SR_tail hst).1
    refine zW_ok hj B196_377 377 _ _ _ _ _ b196_377 ?_
    simp only [B196_377, zW, z_wp1, z_ld, z_f0, z_f1, z_f2, z_f3, List.getElem?_cons_zero, List.getElem?_cons_succ, true_and, and_true, Int32.reduceOfInt, z_i10, z_i01, Int32.reduceLT, Int32.reduceLE, Int32.reduceAdd, Int32.reduceSub, z_set, z_set2, z_kil, List.set_cons_zero, List.set_cons_succ, List.take_succ_cons, List.take_zero, List.drop_succ_cons, List.drop_zero, List.reverse_cons, List.reverse_nil, List.nil_append, List.cons_append, List.getD_cons_succ, List.getD_cons_zero, List.getD_nil, List.length_cons, List.length_nil, List.map_cons, List.map_nil, List.sum_cons, List.sum_nil, Nat.reduceAdd, Nat.reduceLeDiff, Value.category, Option.toList, true_or, or_true, z_ua, ↓reduceIte, Nat.reduceEqDiff, eq_self, not_true_eq_false, not_false_eq_true, false_implies, true_implies, Classical.not_not, Nat.le_refl, Nat.zero_le, sK71 hS, sG71_30 hS, sK84 hS, sL84 hS]
    try dsimp only
    refine ⟨vp_in_iff.mpr (by decide), ?_⟩
    exact hQ _ _ ⟨by rw [show (0 : Int32).toNatClampNeg = 0 from rfl, show I' 84 0 = v from e3.1], I', rfl, ho⟩
  | w :: rest, t, st, I', hr, ht, ho, hst, hev => by
    have htl : t < cs.length := by
      have : 0 < (cs.drop t).length := by rw [hr]; simp
      rw [List.length_drop] at this
      omega
    have hw : cs[t]? = some w := by
      have : (cs.drop t)[0]? = some w := by rw [hr]; rfl
      rwa [List.getElem?_drop, Nat.add_zero] at this
    have hr' : cs.drop (t + 1) = rest := by rw [← List.drop_drop, hr]; rfl
    obtain ⟨w1, w2⟩ := hcs t w hw
    have g80 : I' 80 = I 80 := ho 80 (by decide) (by decide)
    have g81 : I' 81 = I 81 := ho 81 (by decide) (by decide)
    have g82 : I' 82 = I 82 := ho 82 (by decide) (by decide)
    have g71 : I' 71 = I 71 := ho 71 (by decide) (by decide)
    have ei : (nI i).toNatClampNeg = i := nI_clamp (by omega)
    have et : (nI (a + t)).toNatClampNeg = a + t := nI_clamp (by omega)
    have vt : vp_in (nI (a + t)) 1800 := vp_in_nI (by omega) (by omega)
    have hl60 := hst.1
    have el : (nI st.length).toNatClampNeg = st.length := nI_clamp (by omega)
    -- behind a code
    have go : ∀ (st' : List (Int32 × Int32)) (I2 : Nat → Nat → Int32) (x7 x8 : Option Value), m_step (fun m => mI_known I c k f m d) w st = some st' → m_off I I2 → m_SR I2 st' → zV X 371 [some (.ref 71), some (.int (nI i)), some (.int f), some (.int k), some (.int d), some (.int (nI st'.length)), some (.int (nI (a + t))), x7, x8] [] (n, K, L, I2, J, G) 0 0 := by
      intro st' I2 x7 x8 hstep ho2 hst2
      rw [m_ev_c hstep] at hev
      refine zW_ok hj B196_371 371 _ _ _ _ _ b196_371 ?_
      simp only [B196_371, zW, z_wp1, z_ld, z_f0, z_f1, z_f2, z_f3, List.getElem?_cons_zero, List.getElem?_cons_succ, true_and, and_true, Int32.reduceOfInt, z_i10, z_i01, Int32.reduceLT, Int32.reduceLE, Int32.reduceAdd, Int32.reduceSub, z_set, z_set2, z_kil, List.set_cons_zero, List.set_cons_succ, List.take_succ_cons, List.take_zero, List.drop_succ_cons, List.drop_zero, List.reverse_cons, List.reverse_nil, List.nil_append, List.cons_append, List.getD_cons_succ, List.getD_cons_zero, List.getD_nil, List.length_cons, List.length_nil, List.map_cons, List.map_nil, List.sum_cons, List.sum_nil, Nat.reduceAdd, Nat.reduceLeDiff, Value.category, Option.toList, true_or, or_true, z_ua, ↓reduceIte, Nat.reduceEqDiff, eq_self, not_true_eq_false, not_false_eq_true, false_implies, true_implies, Classical.not_not, Nat.le_refl, Nat.zero_le, nI_1]
      try dsimp only
      have := c196_loop hS hj hd hm hs hc hc4 hi ha ha9 hcs hQ rest (t + 1) st' I2 hr' (by omega) ho2 hst2 hev
      rw [show a + (t + 1) = a + t + 1 by omega] at this
      exact this.weak (by simp only [z_le]; simp)
    have gok : ∀ m : Int32, mI_known I' c k f m d = mI_known I c k f m d := fun m => by
      simp only [mI_known, ho 72 (by decide) (by decide), ho 73 (by decide) (by decide), ho 74 (by decide) (by decide), ho 75 (by decide) (by decide), ho 76 (by decide) (by decide)]
    have hc' : I' 71 2 = nI c := by rw [g71]; exact hc
    -- a push: behind the stack's store
    have push : (w.1 = 0 ∨ w.1 = 1 ∨ w.1 = 12) → ∀ x : Int32, x = (if w.1 = 0 then w.2 else mI_known I c k f w.2 d) → zV X 79 [some (.ref 71), some (.int (nI i)), some (.int f), some (.int k), some (.int d), some (.int (nI st.length)), some (.int (nI (a + t))), some (.int w.1), none] [.int x] (n, K, L, I', J, G) 0 0 := by
      intro hw3 x hx
      have hlt : st.length < 60 := by
        rcases Nat.lt_or_ge st.length 60 with q | q
        · exact q
        · rw [m_ev_n (by rw [m_step_p hw3, if_neg (by omega)])] at hev
          cases hev
      have hstep : m_step (fun m => mI_known I c k f m d) w st = some (m_push (fun m => mI_known I c k f m d) w :: st) := by rw [m_step_p hw3, if_pos hlt]
      have vl : vp_in (nI st.length) 60 := vp_in_nI hlt (by omega)
      have fin : ∀ x1 x2 : Int32, (x2 = 0 ∨ x2 = 1) → (x1, x2) = m_push (fun m => mI_known I c k f m d) w → zV X 134 [some (.ref 71), some (.int (nI i)), some (.int f), some (.int k), some (.int d), some (.int (nI st.length)), some (.int (nI (a + t))), some (.int w.1), some (.int x)] [.int x2, .int (nI st.length), .ref 85] (n, K, L, z_u I' 84 st.length x1, J, G) 0 0 := by
        intro x1 x2 h01 hp
        have hn : vp_nar .boolean x2 = x2 := by rcases h01 with rfl | rfl <;> rfl
        have := go (m_push (fun m => mI_known I c k f m d) w :: st) (z_u (z_u I' 84 st.length x1) 85 st.length x2) (some (.int w.1)) (some (.int x)) hstep (m_off_5 (m_off_4 ho _ _) _ _) (by
          rw [← hp]
          refine m_SR_put hst.2 hlt (by simp [z_u]) (by simp [z_u]) (fun q hq => ⟨by simp [z_u, Nat.ne_of_lt hq], by simp [z_u, Nat.ne_of_lt hq]⟩))
        refine zW_ok hj B196_134 134 _ _ _ _ _ b196_134 ?_
        simp only [B196_134, zW, z_wp1, z_ld, z_f0, z_f1, z_f2, z_f3, List.getElem?_cons_zero, List.getElem?_cons_succ, true_and, and_true, Int32.reduceOfInt, z_i10, z_i01, Int32.reduceLT, Int32.reduceLE, Int32.reduceAdd, Int32.reduceSub, z_set, z_set2, z_kil, List.set_cons_zero, List.set_cons_succ, List.take_succ_cons, List.take_zero, List.drop_succ_cons, List.drop_zero, List.reverse_cons, List.reverse_nil, List.nil_append, List.cons_append, List.getD_cons_succ, List.getD_cons_zero, List.getD_nil, List.length_cons, List.length_nil, List.map_cons, List.map_nil, List.sum_cons, List.sum_nil, Nat.reduceAdd, Nat.reduceLeDiff, Value.category, Option.toList, true_or, or_true, z_ua, ↓reduceIte, Nat.reduceEqDiff, eq_self, not_true_eq_false, not_false_eq_true, false_implies, true_implies, Classical.not_not, Nat.le_refl, Nat.zero_le, sK71 hS, sG71_31 hS, sK85 hS, sL85 hS, el, vl, hn, nI_1]
        try dsimp only
        exact this
      have two : ∀ x1 : Int32, x1 = (m_push (fun m => mI_known I c k f m d) w).1 → zV X 110 [some (.ref 71), some (.int (nI i)), some (.int f), some (.int k), some (.int d), some (.int (nI st.length)), some (.int (nI (a + t))), some (.int w.1), some (.int x)] [.int x1, .int (nI st.length), .ref 84] (n, K, L, I', J, G) 0 0 := by
        intro x1 hx1
        have hsnd : (m_push (fun m => mI_known I c k f m d) w).2 = z_b (¬ w.1 = 1 ∨ ¬ x = -1) := by rw [hx]; rfl
        refine zW_ok hj B196_110 110 _ _ _ _ _ b196_110 ?_
        simp only [B196_110, zW, z_wp1, z_ld, z_f0, z_f1, z_f2, z_f3, List.getElem?_cons_zero, List.getElem?_cons_succ, true_and, and_true, Int32.reduceOfInt, z_i10, z_i01, Int32.reduceLT, Int32.reduceLE, Int32.reduceAdd, Int32.reduceSub, z_set, z_set2, z_kil, List.set_cons_zero, List.set_cons_succ, List.take_succ_cons, List.take_zero, List.drop_succ_cons, List.drop_zero, List.reverse_cons, List.reverse_nil, List.nil_append, List.cons_append, List.getD_cons_succ, List.getD_cons_zero, List.getD_nil, List.length_cons, List.length_nil, List.map_cons, List.map_nil, List.sum_cons, List.sum_nil, Nat.reduceAdd, Nat.reduceLeDiff, Value.category, Option.toList, true_or, or_true, z_ua, ↓reduceIte, Nat.reduceEqDiff, eq_self, not_true_eq_false, not_false_eq_true, false_implies, true_implies, Classical.not_not, Nat.le_refl, Nat.zero_le, sK71 hS, sG71_30 hS, sK84 hS, sL84 hS, sG71_31 hS, sK85 hS, sL85 hS, el, vl]
        try dsimp only
        refine ⟨fun h1 => ?_, fun h1 => ⟨fun h2 => ?_, fun h2 => ?_⟩⟩
        · refine zW_ok hj B196_129 129 _ _ _ _ _ b196_129 ?_
          simp only [B196_129, zW, z_wp1, z_ld, z_f0, z_f1, z_f2, z_f3, List.getElem?_cons_zero, List.getElem?_cons_succ, true_and, and_true, Int32.reduceOfInt, z_i10, z_i01, Int32.reduceLT, Int32.reduceLE, Int32.reduceAdd, Int32.reduceSub, z_set, z_set2, z_kil, List.set_cons_zero, List.set_cons_succ, List.take_succ_cons, List.take_zero, List.drop_succ_cons, List.drop_zero, List.reverse_cons, List.reverse_nil, List.nil_append, List.cons_append, List.getD_cons_succ, List.getD_cons_zero, List.getD_nil, List.length_cons, List.length_nil, List.map_cons, List.map_nil, List.sum_cons, List.sum_nil, Nat.reduceAdd, Nat.reduceLeDiff, Value.category, Option.toList, true_or, or_true, z_ua, ↓reduceIte, Nat.reduceEqDiff, eq_self, not_true_eq_false, not_false_eq_true, false_implies, true_implies, Classical.not_not, Nat.le_refl, Nat.zero_le]
          try dsimp only
          exact fin x1 1 (Or.inr rfl) (Prod.ext hx1 (by rw [hsnd, z_b1 (Or.inl h1)]))
        · refine zW_ok hj B196_133 133 _ _ _ _ _ b196_133 ?_
          simp only [B196_133, zW, z_wp1, z_ld, z_f0, z_f1, z_f2, z_f3, List.getElem?_cons_zero, List.getElem?_cons_succ, true_and, and_true, Int32.reduceOfInt, z_i10, z_i01, Int32.reduceLT, Int32.reduceLE, Int32.reduceAdd, Int32.reduceSub, z_set, z_set2, z_kil, List.set_cons_zero, List.set_cons_succ, List.take_succ_cons, List.take_zero, List.drop_succ_cons, List.drop_zero, List.reverse_cons, List.reverse_nil, List.nil_append, List.cons_append, List.getD_cons_succ, List.getD_cons_zero, List.getD_nil, List.length_cons, List.length_nil, List.map_cons, List.map_nil, List.sum_cons, List.sum_nil, Nat.reduceAdd, Nat.reduceLeDiff, Value.category, Option.toList, true_or, or_true, z_ua, ↓reduceIte, Nat.reduceEqDiff, eq_self, not_true_eq_false, not_false_eq_true, false_implies, true_implies, Classical.not_not, Nat.le_refl, Nat.zero_le]
          try dsimp only
          exact fin x1 0 (Or.inl rfl) (Prod.ext hx1 (by rw [hsnd, z_b0 (fun z => z.elim (fun q => q h1) (fun q => q h2))]))
        · refine zW_ok hj B196_129 129 _ _ _ _ _ b196_129 ?_
          simp only [B196_129, zW, z_wp1, z_ld, z_f0, z_f1, z_f2, z_f3, List.getElem?_cons_zero, List.getElem?_cons_succ, true_and, and_true, Int32.reduceOfInt, z_i10, z_i01, Int32.reduceLT, Int32.reduceLE, Int32.reduceAdd, Int32.reduceSub, z_set, z_set2, z_kil, List.set_cons_zero, List.set_cons_succ, List.take_succ_cons, List.take_zero, List.drop_succ_cons, List.drop_zero, List.reverse_cons, List.reverse_nil, List.nil_append, List.cons_append, List.getD_cons_succ, List.getD_cons_zero, List.getD_nil, List.length_cons, List.length_nil, List.map_cons, List.map_nil, List.sum_cons, List.sum_nil, Nat.reduceAdd, Nat.reduceLeDiff, Value.category, Option.toList, true_or, or_true, z_ua, ↓reduceIte, Nat.reduceEqDiff, eq_self, not_true_eq_false, not_false_eq_true, false_implies, true_implies, Classical.not_not, Nat.le_refl, Nat.zero_le]
          try dsimp only
          exact fin x1 1 (Or.inr rfl) (Prod.ext hx1 (by rw [hsnd, z_b1 (Or.inr h2)]))
      have hfst : (m_push (fun m => mI_known I c k f m d) w).1 = if w.1 = 12 then z_b (¬ x = -1) else x := by rw [hx]; rfl
      refine zW_ok hj B196_79 79 _ _ _ _ _ b196_79 ?_
      simp only [B196_79, zW, z_wp1, z_ld, z_f0, z_f1, z_f2, z_f3, List.getElem?_cons_zero, List.getElem?_cons_succ, true_and, and_true, Int32.reduceOfInt, z_i10, z_i01, Int32.reduceLT, Int32.reduceLE, Int32.reduceAdd, Int32.reduceSub, z_set, z_set2, z_kil, List.set_cons_zero, List.set_cons_succ, List.take_succ_cons, List.take_zero, List.drop_succ_cons, List.drop_zero, List.reverse_cons, List.reverse_nil, List.nil_append, List.cons_append, List.getD_cons_succ, List.getD_cons_zero, List.getD_nil, List.length_cons, List.length_nil, List.map_cons, List.map_nil, List.sum_cons, List.sum_nil, Nat.reduceAdd, Nat.reduceLeDiff, Value.category, Option.toList, true_or, or_true, z_ua, ↓reduceIte, Nat.reduceEqDiff, eq_self, not_true_eq_false, not_false_eq_true, false_implies, true_implies, Classical.not_not, Nat.le_refl, Nat.zero_le, sK71 hS, sG71_30 hS, sK84 hS, sL84 hS]
      try dsimp only
      refine ⟨fun h1 => ?_, fun h1 => ⟨fun h2 => ?_, fun h2 => ?_⟩⟩
      · refine zW_ok hj B196_108 108 _ _ _ _ _ b196_108 ?_
        simp only [B196_108, zW, z_wp1, z_ld, z_f0, z_f1, z_f2, z_f3, List.getElem?_cons_zero, List.getElem?_cons_succ, true_and, and_true, Int32.reduceOfInt, z_i10, z_i01, Int32.reduceLT, Int32.reduceLE, Int32.reduceAdd, Int32.reduceSub, z_set, z_set2, z_kil, List.set_cons_zero, List.set_cons_succ, List.take_succ_cons, List.take_zero, List.drop_succ_cons, List.drop_zero, List.reverse_cons, List.reverse_nil, List.nil_append, List.cons_append, List.getD_cons_succ, List.getD_cons_zero, List.getD_nil, List.length_cons, List.length_nil, List.map_cons, List.map_nil, List.sum_cons, List.sum_nil, Nat.reduceAdd, Nat.reduceLeDiff, Value.category, Option.toList, true_or, or_true, z_ua, ↓reduceIte, Nat.reduceEqDiff, eq_self, not_true_eq_false, not_false_eq_true, false_implies, true_implies, Classical.not_not, Nat.le_refl, Nat.zero_le]
        try dsimp only
        exact two x (by rw [hfst, if_neg h1])
      · refine zW_ok hj B196_104 104 _ _ _ _ _ b196_104 ?_
        simp only [B196_104, zW, z_wp1, z_ld, z_f0, z_f1, z_f2, z_f3, List.getElem?_cons_zero, List.getElem?_cons_succ, true_and, and_true, Int32.reduceOfInt, z_i10, z_i01, Int32.reduceLT, Int32.reduceLE, Int32.reduceAdd, Int32.reduceSub, z_set, z_set2, z_kil, List.set_cons_zero, List.set_cons_succ, List.take_succ_cons, List.take_zero, List.drop_succ_cons, List.drop_zero, List.reverse_cons, List.reverse_nil, List.nil_append, List.cons_append, List.getD_cons_succ, List.getD_cons_zero, List.getD_nil, List.length_cons, List.length_nil, List.map_cons, List.map_nil, List.sum_cons, List.sum_nil, Nat.reduceAdd, Nat.reduceLeDiff, Value.category, Option.toList, true_or, or_true, z_ua, ↓reduceIte, Nat.reduceEqDiff, eq_self, not_true_eq_false, not_false_eq_true, false_implies, true_implies, Classical.not_not, Nat.le_refl, Nat.zero_le]
        try dsimp only
        exact two 1 (by rw [hfst, if_pos h1, z_b1 h2])
      · exact two 0 (by rw [hfst, if_pos h1, z_b0 (fun q => q h2)])
    have p49 : (w.1 = 0 ∨ w.1 = 1 ∨ w.1 = 12) → zV X 49 [some (.ref 71), some (.int (nI i)), some (.int f), some (.int k), some (.int d), some (.int (nI st.length)), some (.int (nI (a + t))), some (.int w.1), none] [] (n, K, L, I', J, G) 0 0 := by
      intro hw3
      refine zW_ok hj B196_49 49 _ _ _ _ _ b196_49 ?_
      simp only [B196_49, zW, z_wp1, z_ld, z_f0, z_f1, z_f2, z_f3, List.getElem?_cons_zero, List.getElem?_cons_succ, true_and, and_true, Int32.reduceOfInt, z_i10, z_i01, Int32.reduceLT, Int32.reduceLE, Int32.reduceAdd, Int32.reduceSub, z_set, z_set2, z_kil, List.set_cons_zero, List.set_cons_succ, List.take_succ_cons, List.take_zero, List.drop_succ_cons, List.drop_zero, List.reverse_cons, List.reverse_nil, List.nil_append, List.cons_append, List.getD_cons_succ, List.getD_cons_zero, List.getD_nil, List.length_cons, List.length_nil, List.map_cons, List.map_nil, List.sum_cons, List.sum_nil, Nat.reduceAdd, Nat.reduceLeDiff, Value.category, Option.toList, true_or, or_true, z_ua, ↓reduceIte, Nat.reduceEqDiff, eq_self, not_true_eq_false, not_false_eq_true, false_implies, true_implies, Classical.not_not, Nat.le_refl, Nat.zero_le, sK71 hS, sG71_21 hS, sK82 hS, sL82 hS, et, vt, g82, w2]
      try dsimp only
      refine ⟨fun h1 => ?_, fun h1 => ?_⟩
      · refine zW_ok hj B196_64 64 _ _ _ _ _ b196_64 ?_
        simp only [B196_64, zW, z_wp1, z_ld, z_f0, z_f1, z_f2, z_f3, List.getElem?_cons_zero, List.getElem?_cons_succ, true_and, and_true, Int32.reduceOfInt, z_i10, z_i01, Int32.reduceLT, Int32.reduceLE, Int32.reduceAdd, Int32.reduceSub, z_set, z_set2, z_kil, List.set_cons_zero, List.set_cons_succ, List.take_succ_cons, List.take_zero, List.drop_succ_cons, List.drop_zero, List.reverse_cons, List.reverse_nil, List.nil_append, List.cons_append, List.getD_cons_succ, List.getD_cons_zero, List.getD_nil, List.length_cons, List.length_nil, List.map_cons, List.map_nil, List.sum_cons, List.sum_nil, Nat.reduceAdd, Nat.reduceLeDiff, Value.category, Option.toList, true_or, or_true, z_ua, ↓reduceIte, Nat.reduceEqDiff, eq_self, not_true_eq_false, not_false_eq_true, false_implies, true_implies, Classical.not_not, Nat.le_refl, Nat.zero_le, sK71 hS, sG71_21 hS, sK82 hS, sL82 hS, et, vt, g82, w2]
        try dsimp only
        refine z_callD (c167 hS hc' hc4 k f w.2 d) (by omega) (by omega) (by omega) (Nat.le_of_ble_eq_true rfl) ?_
        try simp only [zW, z_wp1, z_ld, z_f0, z_f1, z_f2, z_f3, List.getElem?_cons_zero, List.getElem?_cons_succ, true_and, and_true, Int32.reduceOfInt, z_i10, z_i01, Int32.reduceLT, Int32.reduceLE, Int32.reduceAdd, Int32.reduceSub, z_set, z_set2, z_kil, List.set_cons_zero, List.set_cons_succ, List.take_succ_cons, List.take_zero, List.drop_succ_cons, List.drop_zero, List.reverse_cons, List.reverse_nil, List.nil_append, List.cons_append, List.getD_cons_succ, List.getD_cons_zero, List.getD_nil, List.length_cons, List.length_nil, List.map_cons, List.map_nil, List.sum_cons, List.sum_nil, Nat.reduceAdd, Nat.reduceLeDiff, Value.category, Option.toList, true_or, or_true, z_ua, ↓reduceIte, Nat.reduceEqDiff, eq_self, not_true_eq_false, not_false_eq_true, false_implies, true_implies, Classical.not_not, Nat.le_refl, Nat.zero_le]
        try dsimp only
        exact push hw3 _ (by rw [if_neg h1]; exact gok w.2)
      · exact push hw3 _ (by rw [if_pos h1])
    -- two below
    have two : ¬ (w.1 = 0 ∨ w.1 = 1 ∨ w.1 = 12) → ¬ w.1 = 9 → ∃ y x r, st = y :: x :: r := by
      intro h1 h2
      match st, hev with
      | [], hev => rw [m_ev_n (m_step_s h1 h2 (by simp))] at hev; cases hev
      | [_], hev => rw [m_ev_n (m_step_s h1 h2 (by simp))] at hev; cases hev
      | y :: x :: r, _ => exact ⟨y, x, r, rfl⟩
    have p187 : ¬ (w.1 = 0 ∨ w.1 = 1 ∨ w.1 = 12) → ¬ w.1 = 9 → zV X 187 [some (.ref 71), some (.int (nI i)), some (.int f), some (.int k), some (.int d), some (.int (nI st.length)), some (.int (nI (a + t))), some (.int w.1), none] [] (n, K, L, I', J, G) 0 0 := by
      intro h1 h2
      obtain ⟨y, x, r, e⟩ := two h1 h2
      subst e
      obtain ⟨⟨y1, y2⟩, hst1, hl1⟩ := m_SR_tail hst
      obtain ⟨⟨x1, x2⟩, hst2, hl2⟩ := m_SR_tail (I := I') (x := x) (r := r) ⟨by simp at hl1 ⊢; omega, hst1⟩
      simp only [List.length_cons] at hl1 y1 y2
      have el0 : nI (r.length + 1 + 1) - 1 = nI (r.length + 1) := nI_pred (r.length + 1)
      have el1 : nI (r.length + 1) - 1 = nI r.length := nI_pred r.length
      have ec1 : (nI (r.length + 1)).toNatClampNeg = r.length + 1 := nI_clamp (by omega)
      have ec0 : (nI r.length).toNatClampNeg = r.length := nI_clamp (by omega)
      have v1 : vp_in (nI (r.length + 1)) 60 := vp_in_nI (by omega) (by omega)
      have v0 : vp_in (nI r.length) 60 := vp_in_nI (by omega) (by omega)
      have join : (w.1 = 10 ∨ w.1 = 11) → ∀ z : Int32, z = (if w.1 = 10 then m_both x.1 y.1 else m_either x.1 y.1) → zV X 265 [some (.ref 71), some (.int (nI i)), some (.int f), some (.int k), some (.int d), some (.int (nI (r.length + 1))), some (.int (nI (a + t))), some (.int w.1), none] [.int z, .int (nI r.length), .ref 84] (n, K, L, I', J, G) 0 0 := by
        intro h3 z hz
        have := go ((z, x.2) :: r) (z_u I' 84 r.length z) (some (.int w.1)) none (by rw [m_step_j h1 h2 h3, hz]) (m_off_4 ho _ _) (m_SR_put hst2 hl2 (by simp [z_u]) (by simp [z_u, x2]) (fun q hq => ⟨by simp [z_u, Nat.ne_of_lt hq], by simp [z_u]⟩))
        refine zW_ok hj B196_265 265 _ _ _ _ _ b196_265 ?_
        simp only [B196_265, zW, z_wp1, z_ld, z_f0, z_f1, z_f2, z_f3, List.getElem?_cons_zero, List.getElem?_cons_succ, true_and, and_true, Int32.reduceOfInt, z_i10, z_i01, Int32.reduceLT, Int32.reduceLE, Int32.reduceAdd, Int32.reduceSub, z_set, z_set2, z_kil, List.set_cons_zero, List.set_cons_succ, List.take_succ_cons, List.take_zero, List.drop_succ_cons, List.drop_zero, List.reverse_cons, List.reverse_nil, List.nil_append, List.cons_append, List.getD_cons_succ, List.getD_cons_zero, List.getD_nil, List.length_cons, List.length_nil, List.map_cons, List.map_nil, List.sum_cons, List.sum_nil, Nat.reduceAdd, Nat.reduceLeDiff, Value.category, Option.toList, true_or, or_true, z_ua, ↓reduceIte, Nat.reduceEqDiff, eq_self, not_true_eq_false, not_false_eq_true, false_implies, true_implies, Classical.not_not, Nat.le_refl, Nat.zero_le, sK71 hS, sG71_30 hS, sK84 hS, sL84 hS, ec0, v0]
        try dsimp only
        exact this
      have p201 : (w.1 = 10 ∨ w.1 = 11) → zV X 201 [some (.ref 71), some (.int (nI i)), some (.int f), some (.int k), some (.int d), some (.int (nI (y :: x :: r).length)), some (.int (nI (a + t))), some (.int w.1), none] [] (n, K, L, I', J, G) 0 0 := by
        intro h3
        refine zW_ok hj B196_201 201 _ _ _ _ _ b196_201 ?_
        simp only [B196_201, zW, z_wp1, z_ld, z_f0, z_f1, z_f2, z_f3, List.getElem?_cons_zero, List.getElem?_cons_succ, true_and, and_true, Int32.reduceOfInt, z_i10, z_i01, Int32.reduceLT, Int32.reduceLE, Int32.reduceAdd, Int32.reduceSub, z_set, z_set2, z_kil, List.set_cons_zero, List.set_cons_succ, List.take_succ_cons, List.take_zero, List.drop_succ_cons, List.drop_zero, List.reverse_cons, List.reverse_nil, List.nil_append, List.cons_append, List.getD_cons_succ, List.getD_cons_zero, List.getD_nil, List.length_cons, List.length_nil, List.map_cons, List.map_nil, List.sum_cons, List.sum_nil, Nat.reduceAdd, Nat.reduceLeDiff, Value.category, Option.toList, true_or, or_true, z_ua, ↓reduceIte, Nat.reduceEqDiff, eq_self, not_true_eq_false, not_false_eq_true, false_implies, true_implies, Classical.not_not, Nat.le_refl, Nat.zero_le, sK71 hS, sG71_30 hS, sK84 hS, sL84 hS, el0, el1, ec0, ec1, v0, v1, x1, y1]
        try dsimp only
        refine ⟨fun h4 => ?_, fun h4 => ?_⟩
        · refine zW_ok hj B196_245 245 _ _ _ _ _ b196_245 ?_
          simp only [B196_245, zW, z_wp1, z_ld, z_f0, z_f1, z_f2, z_f3, List.getElem?_cons_zero, List.getElem?_cons_succ, true_and, and_true, Int32.reduceOfInt, z_i10, z_i01, Int32.reduceLT, Int32.reduceLE, Int32.reduceAdd, Int32.reduceSub, z_set, z_set2, z_kil, List.set_cons_zero, List.set_cons_succ, List.take_succ_cons, List.take_zero, List.drop_succ_cons, List.drop_zero, List.reverse_cons, List.reverse_nil, List.nil_append, List.cons_append, List.getD_cons_succ, List.getD_cons_zero, List.getD_nil, List.length_cons, List.length_nil, List.map_cons, List.map_nil, List.sum_cons, List.sum_nil, Nat.reduceAdd, Nat.reduceLeDiff, Value.category, Option.toList, true_or, or_true, z_ua, ↓reduceIte, Nat.reduceEqDiff, eq_self, not_true_eq_false, not_false_eq_true, false_implies, true_implies, Classical.not_not, Nat.le_refl, Nat.zero_le, sK71 hS, sG71_30 hS, sK84 hS, sL84 hS, el0, el1, ec0, ec1, v0, v1, x1, y1]
          try dsimp only
          refine z_callD (c195 x.1 y.1) (by omega) (by omega) (by omega) (Nat.le_of_ble_eq_true rfl) ?_
          try simp only [zW, z_wp1, z_ld, z_f0, z_f1, z_f2, z_f3, List.getElem?_cons_zero, List.getElem?_cons_succ, true_and, and_true, Int32.reduceOfInt, z_i10, z_i01, Int32.reduceLT, Int32.reduceLE, Int32.reduceAdd, Int32.reduceSub, z_set, z_set2, z_kil, List.set_cons_zero, List.set_cons_succ, List.take_succ_cons, List.take_zero, List.drop_succ_cons, List.drop_zero, List.reverse_cons, List.reverse_nil, List.nil_append, List.cons_append, List.getD_cons_succ, List.getD_cons_zero, List.getD_nil, List.length_cons, List.length_nil, List.map_cons, List.map_nil, List.sum_cons, List.sum_nil, Nat.reduceAdd, Nat.reduceLeDiff, Value.category, Option.toList, true_or, or_true, z_ua, ↓reduceIte, Nat.reduceEqDiff, eq_self, not_true_eq_false, not_false_eq_true, false_implies, true_implies, Classical.not_not, Nat.le_refl, Nat.zero_le]
          try dsimp only
          exact join h3 _ (by rw [if_neg h4])
        · refine z_callD (c194 x.1 y.1) (by omega) (by omega) (by omega) (Nat.le_of_ble_eq_true rfl) ?_
          try simp only [zW, z_wp1, z_ld, z_f0, z_f1, z_f2, z_f3, List.getElem?_cons_zero, List.getElem?_cons_succ, true_and, and_true, Int32.reduceOfInt, z_i10, z_i01, Int32.reduceLT, Int32.reduceLE, Int32.reduceAdd, Int32.reduceSub, z_set, z_set2, z_kil, List.set_cons_zero, List.set_cons_succ, List.take_succ_cons, List.take_zero, List.drop_succ_cons, List.drop_zero, List.reverse_cons, List.reverse_nil, List.nil_append, List.cons_append, List.getD_cons_succ, List.getD_cons_zero, List.getD_nil, List.length_cons, List.length_nil, List.map_cons, List.map_nil, List.sum_cons, List.sum_nil, Nat.reduceAdd, Nat.reduceLeDiff, Value.category, Option.toList, true_or, or_true, z_ua, ↓reduceIte, Nat.reduceEqDiff, eq_self, not_true_eq_false, not_false_eq_true, false_implies, true_implies, Classical.not_not, Nat.le_refl, Nat.zero_le]
          try dsimp only
          exact join h3 _ (by rw [if_pos h4])
      have p269 : ¬ (w.1 = 10 ∨ w.1 = 11) → zV X 269 [some (.ref 71), some (.int (nI i)), some (.int f), some (.int k), some (.int d), some (.int (nI (y :: x :: r).length)), some (.int (nI (a + t))), some (.int w.1), none] [] (n, K, L, I', J, G) 0 0 := by
        intro h3
        have h5 : w.1 = 5 → ¬ y.1 = 0 := fun q z => by
          rw [m_ev_n (by rw [m_step_b h1 h2 h3, if_pos ⟨q, z⟩])] at hev
          cases hev
        have hstep : m_step (fun m => mI_known I c k f m d) w (y :: x :: r) = some (m_bin w.1 x y :: r) := by
          rw [m_step_b h1 h2 h3, if_neg (fun z => h5 z.1 z.2)]
        have fin : ∀ q : Int32, (q = 0 ∨ q = 1) → q = z_b (¬ x.2 = 0 ∧ ¬ y.2 = 0) → zV X 310 [some (.ref 71), some (.int (nI i)), some (.int f), some (.int k), some (.int d), some (.int (nI (r.length + 1))), some (.int (nI (a + t))), some (.int w.1), none] [.int q, .int (nI r.length), .ref 85] (n, K, L, I', J, G) 0 0 := by
          intro q h01 hq
          have hn : vp_nar .boolean q = q := by rcases h01 with rfl | rfl <;> rfl
          have end1 : ∀ z : Int32, (z, q) = m_bin w.1 x y → ∀ I3, m_off I I3 → I3 84 r.length = z → I3 85 r.length = q → (∀ q, q < r.length → I3 84 q = I' 84 q ∧ I3 85 q = I' 85 q) → zV X 371 [some (.ref 71), some (.int (nI i)), some (.int f), some (.int k), some (.int d), some (.int (nI (r.length + 1))), some (.int (nI (a + t))), some (.int w.1), none] [] (n, K, L, I3, J, G) 0 0 := by
            intro z hz I3 ho3 g1 g2 g3
            exact go (m_bin w.1 x y :: r) I3 (some (.int w.1)) none hstep ho3 (by rw [← hz]; exact m_SR_put hst2 hl2 g1 g2 g3)
          have hb : m_bin w.1 x y = (if 6 ≤ w.1 ∧ q = 0 then 2 else m_two w.1 x.1 y.1, q) := by rw [m_bin, ← hq]
          refine zW_ok hj B196_310 310 _ _ _ _ _ b196_310 ?_
          simp only [B196_310, zW, z_wp1, z_ld, z_f0, z_f1, z_f2, z_f3, List.getElem?_cons_zero, List.getElem?_cons_succ, true_and, and_true, Int32.reduceOfInt, z_i10, z_i01, Int32.reduceLT, Int32.reduceLE, Int32.reduceAdd, Int32.reduceSub, z_set, z_set2, z_kil, List.set_cons_zero, List.set_cons_succ, List.take_succ_cons, List.take_zero, List.drop_succ_cons, List.drop_zero, List.reverse_cons, List.reverse_nil, List.nil_append, List.cons_append, List.getD_cons_succ, List.getD_cons_zero, List.getD_nil, List.length_cons, List.length_nil, List.map_cons, List.map_nil, List.sum_cons, List.sum_nil, Nat.reduceAdd, Nat.reduceLeDiff, Value.category, Option.toList, true_or, or_true, z_ua, ↓reduceIte, Nat.reduceEqDiff, eq_self, not_true_eq_false, not_false_eq_true, false_implies, true_implies, Classical.not_not, Nat.le_refl, Nat.zero_le, sK71 hS, sG71_30 hS, sK84 hS, sL84 hS, sG71_31 hS, sK85 hS, sL85 hS, el1, ec0, ec1, v0, v1, hn, x1, y1]
          try dsimp only
          refine z_callD (c193 w.1 x.1 y.1 h5) (by omega) (by omega) (by omega) (Nat.le_of_ble_eq_true rfl) ?_
          try simp only [zW, z_wp1, z_ld, z_f0, z_f1, z_f2, z_f3, List.getElem?_cons_zero, List.getElem?_cons_succ, true_and, and_true, Int32.reduceOfInt, z_i10, z_i01, Int32.reduceLT, Int32.reduceLE, Int32.reduceAdd, Int32.reduceSub, z_set, z_set2, z_kil, List.set_cons_zero, List.set_cons_succ, List.take_succ_cons, List.take_zero, List.drop_succ_cons, List.drop_zero, List.reverse_cons, List.reverse_nil, List.nil_append, List.cons_append, List.getD_cons_succ, List.getD_cons_zero, List.getD_nil, List.length_cons, List.length_nil, List.map_cons, List.map_nil, List.sum_cons, List.sum_nil, Nat.reduceAdd, Nat.reduceLeDiff, Value.category, Option.toList, true_or, or_true, z_ua, ↓reduceIte, Nat.reduceEqDiff, eq_self, not_true_eq_false, not_false_eq_true, false_implies, true_implies, Classical.not_not, Nat.le_refl, Nat.zero_le, sK71 hS, sG71_30 hS, sK84 hS, sL84 hS, sG71_31 hS, sK85 hS, sL85 hS, el1, ec0, ec1, v0, v1]
          try dsimp only
          refine ⟨fun h6 => end1 (m_two w.1 x.1 y.1) ?_ _ (m_off_4 (m_off_5 ho _ _) _ _) (by simp [z_u]) (by simp [z_u]) (fun t ht => by simp [z_u, Nat.ne_of_lt ht]), fun h6 => ⟨fun h7 => end1 (m_two w.1 x.1 y.1) ?_ _ (m_off_4 (m_off_5 ho _ _) _ _) (by simp [z_u]) (by simp [z_u]) (fun t ht => by simp [z_u, Nat.ne_of_lt ht]), fun h7 => end1 2 ?_ _ (m_off_4 (m_off_4 (m_off_5 ho _ _) _ _) _ _) (by simp [z_u]) (by simp [z_u]) (fun t ht => by simp [z_u, Nat.ne_of_lt ht])⟩⟩
          · rw [hb, if_neg (fun z => Int32.not_le.mpr h6 z.1)]
          · rw [hb, if_neg (fun z => h7 z.2)]
          · rw [hb, if_pos ⟨Int32.not_lt.mp h6, h7⟩]
        refine zW_ok hj B196_269 269 _ _ _ _ _ b196_269 ?_
        simp only [B196_269, zW, z_wp1, z_ld, z_f0, z_f1, z_f2, z_f3, List.getElem?_cons_zero, List.getElem?_cons_succ, true_and, and_true, Int32.reduceOfInt, z_i10, z_i01, Int32.reduceLT, Int32.reduceLE, Int32.reduceAdd, Int32.reduceSub, z_set, z_set2, z_kil, List.set_cons_zero, List.set_cons_succ, List.take_succ_cons, List.take_zero, List.drop_succ_cons, List.drop_zero, List.reverse_cons, List.reverse_nil, List.nil_append, List.cons_append, List.getD_cons_succ, List.getD_cons_zero, List.getD_nil, List.length_cons, List.length_nil, List.map_cons, List.map_nil, List.sum_cons, List.sum_nil, Nat.reduceAdd, Nat.reduceLeDiff, Value.category, Option.toList, true_or, or_true, z_ua, ↓reduceIte, Nat.reduceEqDiff, eq_self, not_true_eq_false, not_false_eq_true, false_implies, true_implies, Classical.not_not, Nat.le_refl, Nat.zero_le, sK71 hS, sG71_30 hS, sK84 hS, sL84 hS, sG71_31 hS, sK85 hS, sL85 hS, el0, el1, ec0, ec1, v0, v1, x2, y2]
        try dsimp only
        refine ⟨fun h6 => ?_, fun h6 => ⟨fun h7 => ?_, fun h7 => ?_⟩⟩
        · refine zW_ok hj B196_309 309 _ _ _ _ _ b196_309 ?_
          simp only [B196_309, zW, z_wp1, z_ld, z_f0, z_f1, z_f2, z_f3, List.getElem?_cons_zero, List.getElem?_cons_succ, true_and, and_true, Int32.reduceOfInt, z_i10, z_i01, Int32.reduceLT, Int32.reduceLE, Int32.reduceAdd, Int32.reduceSub, z_set, z_set2, z_kil, List.set_cons_zero, List.set_cons_succ, List.take_succ_cons, List.take_zero, List.drop_succ_cons, List.drop_zero, List.reverse_cons, List.reverse_nil, List.nil_append, List.cons_append, List.getD_cons_succ, List.getD_cons_zero, List.getD_nil, List.length_cons, List.length_nil, List.map_cons, List.map_nil, List.sum_cons, List.sum_nil, Nat.reduceAdd, Nat.reduceLeDiff, Value.category, Option.toList, true_or, or_true, z_ua, ↓reduceIte, Nat.reduceEqDiff, eq_self, not_true_eq_false, not_false_eq_true, false_implies, true_implies, Classical.not_not, Nat.le_refl, Nat.zero_le]
          try dsimp only
          exact fin 0 (Or.inl rfl) (z_b0 (fun z => z.1 h6)).symm
        · refine zW_ok hj B196_309 309 _ _ _ _ _ b196_309 ?_
          simp only [B196_309, zW, z_wp1, z_ld, z_f0, z_f1, z_f2, z_f3, List.getElem?_cons_zero, List.getElem?_cons_succ, true_and, and_true, Int32.reduceOfInt, z_i10, z_i01, Int32.reduceLT, Int32.reduceLE, Int32.reduceAdd, Int32.reduceSub, z_set, z_set2, z_kil, List.set_cons_zero, List.set_cons_succ, List.take_succ_cons, List.take_zero, List.drop_succ_cons, List.drop_zero, List.reverse_cons, List.reverse_nil, List.nil_append, List.cons_append, List.getD_cons_succ, List.getD_cons_zero, List.getD_nil, List.length_cons, List.length_nil, List.map_cons, List.map_nil, List.sum_cons, List.sum_nil, Nat.reduceAdd, Nat.reduceLeDiff, Value.category, Option.toList, true_or, or_true, z_ua, ↓reduceIte, Nat.reduceEqDiff, eq_self, not_true_eq_false, not_false_eq_true, false_implies, true_implies, Classical.not_not, Nat.le_refl, Nat.zero_le]
          try dsimp only
          exact fin 0 (Or.inl rfl) (z_b0 (fun z => z.2 h7)).symm
        · exact fin 1 (Or.inr rfl) (z_b1 ⟨h6, h7⟩).symm
      refine zW_ok hj B196_187 187 _ _ _ _ _ b196_187 ?_
      simp only [B196_187, zW, z_wp1, z_ld, z_f0, z_f1, z_f2, z_f3, List.getElem?_cons_zero, List.getElem?_cons_succ, true_and, and_true, Int32.reduceOfInt, z_i10, z_i01, Int32.reduceLT, Int32.reduceLE, Int32.reduceAdd, Int32.reduceSub, z_set, z_set2, z_kil, List.set_cons_zero, List.set_cons_succ, List.take_succ_cons, List.take_zero, List.drop_succ_cons, List.drop_zero, List.reverse_cons, List.reverse_nil, List.nil_append, List.cons_append, List.getD_cons_succ, List.getD_cons_zero, List.getD_nil, List.length_cons, List.length_nil, List.map_cons, List.map_nil, List.sum_cons, List.sum_nil, Nat.reduceAdd, Nat.reduceLeDiff, Value.category, Option.toList, true_or, or_true, z_ua, ↓reduceIte, Nat.reduceEqDiff, eq_self, not_true_eq_false, not_false_eq_true, false_implies, true_implies, Classical.not_not, Nat.le_refl, Nat.zero_le]
      try dsimp only
      refine ⟨fun h3 => p201 (Or.inl h3), fun h3 => ⟨fun h4 => p269 (fun z => z.elim h3 h4), fun h4 => p201 (Or.inr h4)⟩⟩
    have p144 : ¬ (w.1 = 0 ∨ w.1 = 1 ∨ w.1 = 12) → zV X 144 [some (.ref 71), some (.int (nI i)), some (.int f), some (.int k), some (.int d), some (.int (nI st.length)), some (.int (nI (a + t))), some (.int w.1), none] [] (n, K, L, I', J, G) 0 0 := by
      intro h1
      by_cases h2 : w.1 = 9
      · match st, hev, hst, go with
        | [], hev, _, _ => rw [m_ev_n (m_step_n0 h1 h2)] at hev; cases hev
        | x :: r, hev, hst, go =>
          obtain ⟨⟨x1, x2⟩, hst2, hl2⟩ := m_SR_tail hst
          have el1 : nI (r.length + 1) - 1 = nI r.length := nI_pred r.length
          have ec0 : (nI r.length).toNatClampNeg = r.length := nI_clamp (by omega)
          have v0 : vp_in (nI r.length) 60 := vp_in_nI (by omega) (by omega)
          have hstep : m_step (fun m => mI_known I c k f m d) w (x :: r) = some ((if x.1 < 2 then 1 - x.1 else x.1, x.2) :: r) := m_step_n h1 h2
          refine zW_ok hj B196_144 144 _ _ _ _ _ b196_144 ?_
          simp only [B196_144, zW, z_wp1, z_ld, z_f0, z_f1, z_f2, z_f3, List.getElem?_cons_zero, List.getElem?_cons_succ, true_and, and_true, Int32.reduceOfInt, z_i10, z_i01, Int32.reduceLT, Int32.reduceLE, Int32.reduceAdd, Int32.reduceSub, z_set, z_set2, z_kil, List.set_cons_zero, List.set_cons_succ, List.take_succ_cons, List.take_zero, List.drop_succ_cons, List.drop_zero, List.reverse_cons, List.reverse_nil, List.nil_append, List.cons_append, List.getD_cons_succ, List.getD_cons_zero, List.getD_nil, List.length_cons, List.length_nil, List.map_cons, List.map_nil, List.sum_cons, List.sum_nil, Nat.reduceAdd, Nat.reduceLeDiff, Value.category, Option.toList, true_or, or_true, z_ua, ↓reduceIte, Nat.reduceEqDiff, eq_self, not_true_eq_false, not_false_eq_true, false_implies, true_implies, Classical.not_not, Nat.le_refl, Nat.zero_le, sK71 hS, sG71_30 hS, sK84 hS, sL84 hS, h2, el1, ec0, v0, x1]
          try dsimp only
          refine ⟨fun h3 => ?_, fun h3 => ?_⟩
          · have := go _ I' (some (.int w.1)) none hstep ho (by rw [if_neg (Int32.not_lt.mpr h3)]; exact hst)
            rw [h2] at this
            exact this
          · have := go _ (z_u I' 84 r.length (1 - x.1)) (some (.int w.1)) none hstep (m_off_4 ho _ _) (by rw [if_pos (Int32.not_le.mp h3)]; exact m_SR_put hst2 hl2 (by simp [z_u]) (by simp [z_u, x2]) (fun q hq => ⟨by simp [z_u, Nat.ne_of_lt hq], by simp [z_u]⟩))
            rw [h2] at this
            exact this
      · refine zW_ok hj B196_144 144 _ _ _ _ _ b196_144 ?_
        simp only [B196_144, zW, z_wp1, z_ld, z_f0, z_f1, z_f2, z_f3, List.getElem?_cons_zero, List.getElem?_cons_succ, true_and, and_true, Int32.reduceOfInt, z_i10, z_i01, Int32.reduceLT, Int32.reduceLE, Int32.reduceAdd, Int32.reduceSub, z_set, z_set2, z_kil, List.set_cons_zero, List.set_cons_succ, List.take_succ_cons, List.take_zero, List.drop_succ_cons, List.drop_zero, List.reverse_cons, List.reverse_nil, List.nil_append, List.cons_append, List.getD_cons_succ, List.getD_cons_zero, List.getD_nil, List.length_cons, List.length_nil, List.map_cons, List.map_nil, List.sum_cons, List.sum_nil, Nat.reduceAdd, Nat.reduceLeDiff, Value.category, Option.toList, true_or, or_true, z_ua, ↓reduceIte, Nat.reduceEqDiff, eq_self, not_true_eq_false, not_false_eq_true, false_implies, true_implies, Classical.not_not, Nat.le_refl, Nat.zero_le, sK71 hS, sG71_30 hS, sK84 hS, sL84 hS]
        try dsimp only
        refine ⟨fun _ => p187 h1 h2, fun h3 => absurd h3 h2⟩
    refine zW_ok hj B196_11 11 _ _ _ _ _ b196_11 ?_
    simp only [B196_11, zW, z_wp1, z_ld, z_f0, z_f1, z_f2, z_f3, List.getElem?_cons_zero, List.getElem?_cons_succ, true_and, and_true, Int32.reduceOfInt, z_i10, z_i01, Int32.reduceLT, Int32.reduceLE, Int32.reduceAdd, Int32.reduceSub, z_set, z_set2, z_kil, List.set_cons_zero, List.set_cons_succ, List.take_succ_cons, List.take_zero, List.drop_succ_cons, List.drop_zero, List.reverse_cons, List.reverse_nil, List.nil_append, List.cons_append, List.getD_cons_succ, List.getD_cons_zero, List.getD_nil, List.length_cons, List.length_nil, List.map_cons, List.map_nil, List.sum_cons, List.sum_nil, Nat.reduceAdd, Nat.reduceLeDiff, Value.category, Option.toList, true_or, or_true, z_ua, ↓reduceIte, Nat.reduceEqDiff, eq_self, not_true_eq_false, not_false_eq_true, false_implies, true_implies, Classical.not_not, Nat.le_refl, Nat.zero_le, sK71 hS, sG71_19 hS, sK80 hS, sL80 hS, sG71_20 hS, sK81 hS, sL81 hS, g80, g81, ei, et, vt, ha, w1, vp_in_nI (show i < 24 by omega) (by omega)]
    try dsimp only
    refine ⟨fun hc => absurd hc (nI_ge (by omega) (by omega)), fun _ => ⟨fun h1 => p49 (Or.inl h1), fun h1 => ⟨fun h2 => p49 (Or.inr (Or.inl h2)), fun h2 => ⟨fun h3 => p144 (fun z => z.elim h1 (fun z => z.elim h2 h3)), fun h3 => p49 (Or.inr (Or.inr h3))⟩⟩⟩⟩
/-- markOf -/
theorem c196 (hS : SS K L G) {i c : Nat} {f k d v b : Int32} {cs : List (Int32 × Int32)} (hc : I 71 2 = nI c) (hc4 : c ≤ 400) (hi : i < 12) (hcs : m_code I i cs) (hev : m_ev (fun m => mI_known I c k f m d) cs [] = some [(v, b)]) :
    z_Ctr l 2 196 [.ref 71, .int (nI i), .int f, .int k, .int d] (n, K, L, I, J, G) 0 0 (fun r h' => r = some (.int v) ∧ ∃ I', h' = (n, K, L, I', J, G) ∧ m_off I I') := by
  obtain ⟨a, h1, h2, h3, h4⟩ := hcs
  have ei : (nI i).toNatClampNeg = i := nI_clamp (by omega)
  refine z_ctr (by decide) (by decide +kernel) (Nat.le_of_ble_eq_true rfl) (by decide +kernel) (fun X hl hj hd hm hs hsc hQ => ?_)
  show zV X 0 [some (.ref 71), some (.int (nI i)), some (.int f), some (.int k), some (.int d), none, none, none, none] [] _ 0 0
  refine zW_ok hj B196_0 0 _ _ _ _ _ b196_0 ?_
  simp only [B196_0, zW, z_wp1, z_ld, z_f0, z_f1, z_f2, z_f3, List.getElem?_cons_zero, List.getElem?_cons_succ, true_and, and_true, Int32.reduceOfInt, z_i10, z_i01, Int32.reduceLT, Int32.reduceLE, Int32.reduceAdd, Int32.reduceSub, z_set, z_set2, z_kil, List.set_cons_zero, List.set_cons_succ, List.take_succ_cons, List.take_zero, List.drop_succ_cons, List.drop_zero, List.reverse_cons, List.reverse_nil, List.nil_append, List.cons_append, List.getD_cons_succ, List.getD_cons_zero, List.getD_nil, List.length_cons, List.length_nil, List.map_cons, List.map_nil, List.sum_cons, List.sum_nil, Nat.reduceAdd, Nat.reduceLeDiff, Value.category, Option.toList, true_or, or_true, z_ua, ↓reduceIte, Nat.reduceEqDiff, eq_self, not_true_eq_false, not_false_eq_true, false_implies, true_implies, Classical.not_not, Nat.le_refl, Nat.zero_le, sK71 hS, sG71_18 hS, sK79 hS, sL79 hS, ei, h1, vp_in_nI (show i < 24 by omega) (by omega)]
  try dsimp only
  exact c196_loop hS hj hd hm hs hc hc4 hi h2 h3 h4 hQ cs 0 [] I rfl (Nat.zero_le _) (fun _ _ _ => rfl) m_SR_nil hev
end M7
