/-! Texts: rows of the pure machine; length, charAt -/
def z_len (b : Nat) : Nat := ([2, 3, 3, 5] : List Nat).getD (b - 1) 0
def z_byt (b : Nat) : List Int32 := ([[111, 114], [97, 110, 100], [110, 111, 116], [107, 110, 111, 119, 110]] : List (List Int32)).getD (b - 1) []
theorem z_len_in {b : Nat} (h1 : 1 ≤ b) (h4 : b ≤ 4) : z_len b < 6 ∧ (z_byt b).length = z_len b := by
  have : b = 1 ∨ b = 2 ∨ b = 3 ∨ b = 4 := by omega
  rcases this with rfl | rfl | rfl | rfl <;> decide
section STR2
variable {l : Launch} {j d mc ms : Nat} {SC : Option (Nat × (Nat → Int32))} {Qf : Option Value → zH → Prop} {pc : Nat} {ls : List (Option Value)} {st : List Value} {h : zH} {uc us : Nat} {b : Nat}
/-- what is known of a text -/
theorem z_str {p : Program} {e : Env} {R : Room} {s : State} {m : MethodId} {args : Array Value} {below : List Frame} {meth : Method} {c : Code} {D : va_G} {cy : Nat → ClassId} {A : Nat → Prop} {ρ0 : Nat → Nat} {n0 : Nat} {Z : State → Prop} {ρ : Nat → Nat} {H : Heap} {locs : List Loc} (hC : z_CT l j d mc ms SC Qf p e R s m args below meth c D cy A ρ0 n0 Z) (hS : z_SV D cy A ρ0 n0 s mc ms ρ h H locs st uc us) (h1 : 1 ≤ b) (h4 : b ≤ 4) : (∃ cell : Cell, H[ρ b]? = some cell ∧ cell.vm.isStatics = false ∧ s.vm.findClass "java/lang/String" = some cell.cls) ∧ va_OF "java/lang/String" "coder" "B" (.int 0) (ρ b) A s s.heap ∧ ∃ q, va_OF "java/lang/String" "value" "[B" (.ref q) (ρ b) A s s.heap ∧ va_T .byte q (z_len b) (fun k => .int ((z_byt b).getD k 0)) A s s.heap := by
  obtain ⟨-, -, ⟨adV, hv⟩, -⟩ := hC.2.2.2.2.2.2.1
  have h5 := hC.2.2.2.2.2.2.2.2.2.2.1
  have er : ρ b = ρ0 (b - 1 + 1) := by rw [hS.1 b (by omega), show b - 1 + 1 = b by omega]
  have hr := vk_recv hv (i := b - 1) (by omega) hS.2.2.2.2.2.1
  obtain ⟨q1, q2, q3, q4⟩ := hv.1 (b - 1) (by omega)
  rw [er]
  exact ⟨hr, q2, adV (b - 1), q3, q4⟩
theorem z_s_ldcS {i q : Nat} (hd : decode (z_C j) pc = .ok (.ldc i, 2)) (ho : z_O j = 9) (hc : (i = 62 ∧ q = 1) ∨ (i = 68 ∧ q = 2) ∨ (i = 70 ∧ q = 3) ∨ (i = 72 ∧ q = 4)) (k : z_V l j d mc ms SC Qf (pc + 2) ls (.ref q :: st) h uc us) : z_V l j d mc ms SC Qf pc ls st h uc us := by
  intro p e R s m args below meth c D cy A ρ0 n0 Z hC ρ H locs arr hS hL
  obtain ⟨-, -, -, ⟨r1, r2, r3, r4⟩, -⟩ := hC.2.2.2.2.2.2.1
  have h5 := hC.2.2.2.2.2.2.2.2.2.2.1
  have hok := hS.2.2.2.2.1.1
  have hown := hC.2.2.2.1
  rw [ho] at hown
  have kk := k p e R s m args below meth c D cy A ρ0 n0 Z hC ρ H locs arr (hS.st (z_sc_cons (show q < h.1 by omega) hS.2.2.2.2.2.2.1)) hL
  have er : z_cv ρ (.ref q) = .ref (ρ0 q) := by
    show Value.ref (ρ q) = _
    rw [hS.1 q (by omega)]
  rw [List.map_cons, er] at kk
  rcases hc with ⟨rfl, rfl⟩ | ⟨rfl, rfl⟩ | ⟨rfl, rfl⟩ | ⟨rfl, rfl⟩
  · exact va_ldcS hC.1 hC.2.1 hown r1 hd kk
  · exact va_ldcS hC.1 hC.2.1 hown r2 hd kk
  · exact va_ldcS hC.1 hC.2.1 hown r3 hd kk
  · exact va_ldcS hC.1 hC.2.1 hown r4 hd kk
theorem z_s_cs (hd : decode (z_C j) pc = .ok (.getstatic 38, 3)) (ho : z_O j = 15) (k : z_V l j d mc ms SC Qf (pc + 3) ls (.int 1 :: st) h uc us) : z_V l j d mc ms SC Qf pc ls st h uc us := by
  intro p e R s m args below meth c D cy A ρ0 n0 Z hC ρ H locs arr hS hL
  obtain ⟨-, -, -, -, hz, -⟩ := hC.2.2.2.2.2.2.1
  have hown := hC.2.2.2.1
  rw [ho] at hown
  exact va_gets hC.1 hC.2.1 hz hS.2.2.2.2.2.1 hown (hC.2.2.2.2.1 _ z_fl_cs) (fun _ h => h) hd (k p e R s m args below meth c D cy A ρ0 n0 Z hC ρ H locs arr (hS.st (z_sc_cons trivial hS.2.2.2.2.2.2.1)) hL)
theorem z_s_co (hd : decode (z_C j) pc = .ok (.getfield 15, 3)) (ho : z_O j = 15) (h1 : 1 ≤ b) (h4 : b ≤ 4) (k : z_V l j d mc ms SC Qf (pc + 3) ls (.int 0 :: st) h uc us) : z_V l j d mc ms SC Qf pc ls (.ref b :: st) h uc us := by
  intro p e R s m args below meth c D cy A ρ0 n0 Z hC ρ H locs arr hS hL
  obtain ⟨-, hco, -⟩ := z_str hC hS h1 h4
  have hown := hC.2.2.2.1
  rw [ho] at hown
  exact vk_getf hC.1 hC.2.1 hco hS.2.2.2.2.2.1 hown (hC.2.2.2.2.1 _ z_fl_co) (fun _ h => h) hd (k p e R s m args below meth c D cy A ρ0 n0 Z hC ρ H locs arr (hS.st (z_sc_cons trivial (z_sc_tail hS.2.2.2.2.2.2.1))) hL)
theorem z_s_vl (hd : decode (z_C j) pc = .ok (.getfield 9, 3)) (hd2 : decode (z_C j) (pc + 3) = .ok (.arraylength, 1)) (ho : z_O j = 15) (h1 : 1 ≤ b) (h4 : b ≤ 4) (k : z_V l j d mc ms SC Qf (pc + 3 + 1) ls (.int (nI (z_len b)) :: st) h uc us) : z_V l j d mc ms SC Qf pc ls (.ref b :: st) h uc us := by
  intro p e R s m args below meth c D cy A ρ0 n0 Z hC ρ H locs arr hS hL
  obtain ⟨-, -, q, hva, hT⟩ := z_str hC hS h1 h4
  have hown := hC.2.2.2.1
  rw [ho] at hown
  refine vk_getf hC.1 hC.2.1 hva hS.2.2.2.2.2.1 hown (hC.2.2.2.2.1 _ z_fl_va) (fun _ h => h) hd ?_
  exact va_tlen (v := nI (z_len b)) hC.1 hC.2.1 hT hS.2.2.2.2.2.1 rfl hd2 (k p e R s m args below meth c D cy A ρ0 n0 Z hC ρ H locs arr (hS.st (z_sc_cons trivial (z_sc_tail hS.2.2.2.2.2.2.1))) hL)
/-- a call on a text -/
theorem z_s_invT {i j' d' mc' ms' : Nat} {as rest : List Value} {Q' : Option Value → zH → Prop} (hd : decode (z_C j) pc = .ok (.invokevirtual i, 3)) (hj : j' < 258) (hl : (z_O j, i, j') ∈ z_ml) (hkd : z_Kd j' = 1) (hcl : z_O j' = 15) (h1 : 1 ≤ b) (h4 : b ≤ 4) (hn : as.length = z_An j') (hrs : (rest.map (fun v => v.category)).sum ≤ 8) (hdd : d' < d) (hct : z_Ctr l d' j' (.ref b :: as) h mc' ms' Q') (hc : uc + mc' ≤ mc) (hs : us + ms' ≤ ms)
    (kk : ∀ (r : Option Value) (h' : zH), Q' r h' → z_V l j d mc ms SC Qf (pc + 3) ls (r.toList ++ rest) h' (uc + mc') (us + ms')) : z_V l j d mc ms SC Qf pc ls (as.reverse ++ .ref b :: rest) h uc us := by
  intro p e R s m args below meth c D cy A ρ0 n0 Z hC ρ H locs arr hS hL
  obtain ⟨f1, f2, f3, f4, f5, f6, f7, f8, f9⟩ := z_mf hj
  have hR := hC.2.2.2.2.2.2.2.2.2.1
  have hsc := hS.2.2.2.2.2.2.1
  have hasc : ∀ v ∈ Value.ref b :: as, z_sc h.1 v := fun v hv => hsc v (by rcases List.mem_cons.mp hv with rfl | hv <;> simp [*])
  have hrest : ∀ v ∈ rest, z_sc h.1 v := fun v hv => hsc v (by simp [hv])
  have hM := hct hS.2.2.2.2.1 hasc D cy ρ H.size
  have hrecv : ∃ cellB : Cell, H[ρ b]? = some cellB ∧ cellB.vm.isStatics = false ∧ s.vm.findClass (z_y j').cls = some cellB.cls := by
    rw [f8, hcl]
    exact (z_str hC hS h1 h4).1
  have hstk : (as.reverse ++ .ref b :: rest).map (z_cv ρ) = (as.map (z_cv ρ)).reverse ++ .ref (ρ b) :: rest.map (z_cv ρ) := by simp [z_cv]
  rw [hstk]
  have hpre := z_pre (as := .ref b :: as) hC hS
  have hR2 : (z_rm d' mc' ms').frames + 1 ≤ R.frames ∧ 8 + (z_L j' + 11) + (z_rm d' mc' ms').locals ≤ R.locals := ⟨by show d' + 1 ≤ _; omega, by show 8 + (z_L j' + 11) + 100 * d' ≤ _; omega⟩
  have hfix : CallFix p m c (z_C j) (z_L j) s args TW (z_own (z_O j)) := ⟨hC.1, hC.2.1, hC.2.2.1, hC.2.2.2.1, hC.2.2.2.2.1⟩
  exact z_after (va_runV (C := (z_y j').cls) (b := ρ b) (As := as.map (z_cv ρ)) (rest := rest.map (z_cv ρ)) (g := F0 m pc arr _) hfix hM (cwV (z_An j') hC.2.2.2.2.1 (z_goodV hj hkd (z_ml_in hl)) rfl rfl rfl ⟨rfl, f6⟩ hR2) ⟨z_blind, hrecv, hpre⟩ rfl (by simp [hn]) hL.1 rfl (lv_room (z_sum hrs)) hd ⟨Nat.le_trans hc hR.2.2.1, Nat.le_trans hs hR.2.2.2⟩) hC hS hrest hL hc hs kk
/-- the char at a place of a text -/
theorem z_s_ch {k : Nat} (hk : k < z_len b) (hd1 : decode (z_C j) pc = .ok (.getfield 9, 3)) (hd2 : decode (z_C j) (pc + 3) = .ok (.iload_n 1, 1)) (hd3 : decode (z_C j) (pc + 3 + 1) = .ok (.invokestatic 495, 3)) (ho : z_O j = 15) (hlk : (z_O j, 495, 251) ∈ z_ml) (h1 : 1 ≤ b) (h4 : b ≤ 4) (hdd : 3 ≤ d) (hl : ls[1]? = some (some (.int (nI k)))) {v : Int32} (hv : (((z_byt b).getD k 0 &&& 255).toUInt32 % 65536).toInt32 = v) (hnar : narrow .char (.int v) = .int v) (kk : z_V l j d mc ms SC Qf (pc + 3 + 1 + 3) ls [.int v] h uc us) : z_V l j d mc ms SC Qf pc ls [.ref b] h uc us := by
  intro p e R s m args below meth c D cy A ρ0 n0 Z hC ρ H locs arr hS hL
  obtain ⟨-, -, q, hva, hT⟩ := z_str hC hS h1 h4
  obtain ⟨-, -, -, -, -, hZ⟩ := hC.2.2.2.2.2.2.1
  have hR := hC.2.2.2.2.2.2.2.2.2.1
  have hSS := hS.2.2.2.2.2.1
  have hown := hC.2.2.2.1
  have hown2 := hC.2.2.2.1
  rw [ho] at hown2
  have hR9 : 8 + (z_L 251 + 11) + 100 * 2 ≤ R.locals := by
    rw [show z_L 251 = 2 by decide +kernel]
    have := hR.2.1
    omega
  have hlen : z_len b < 2 ^ 31 := by have := (z_len_in h1 h4).1; omega
  refine vk_getf hC.1 hC.2.1 hva hSS hown2 (hC.2.2.2.2.1 _ z_fl_va) (fun _ h => h) hd1 ?_
  refine lv_iload_n hC.1 hC.2.1 hd2 rfl (hL.2.2.2 _ _ hl).1 ?_
  refine z_pm_call (as := [.ref q, .int (nI k)]) (rest := []) (j := j) (j' := 251) (d' := 2) (v := some (.int v)) hC.1 hC.2.1 hC.2.2.1 hown hC.2.2.2.2.1 hL.1 hd3 (by decide) hlk (by decide +kernel) (show (2 : Nat) = z_An 251 by decide +kernel) (by decide) (z_p251 (l := l) (i := k) (n := z_len b) (b := q) (f := fun k => (z_byt b).getD k 0) (v := v) hk hlen hv hnar) (fun U g mk a h => ⟨va_T.moved (u := U) (U := U.calling g mk a) (Vm.Alike.refl U.vm) h.1, va_Zq.moved (u := U) (U := U.calling g mk a) (Vm.Alike.refl U.vm) h.2⟩) (fun U hU hW => by
    rw [hU]
    have kq : ∀ a : Nat, a < s.heap.size → ¬ A a → H[a]? = s.heap[a]? := hSS.2.1
    exact ⟨va_T.narrow ((va_T.moved hW.alike hT).kept kq) (fun _ z => z.elim), va_Zq.narrow ((va_Zq.moved hW.alike hZ).kept kq) (fun _ z => z.elim)⟩) ⟨Nat.le_trans hdd hR.1, hR9⟩ ⟨Nat.le_trans hS.2.2.2.2.2.2.2.1 hR.2.2.1, Nat.le_trans hS.2.2.2.2.2.2.2.2 hR.2.2.2⟩ ?_
  exact kk p e R s m args below meth c D cy A ρ0 n0 Z hC ρ H locs arr (hS.st (z_sc_cons trivial (fun v hv => by cases hv))) hL
end STR2
section STR3
variable {l : Launch} {h : zH} {b : Nat}
/-- coder -/
theorem c248 (h1 : 1 ≤ b) (h4 : b ≤ 4) : z_D l 0 248 [.ref b] h (some (.int 0)) h := by
  refine z_ctr (by decide) (by decide +kernel) (Nat.le_of_ble_eq_true rfl) (by decide +kernel) (fun X hl hj hd hm hs hsc hQ => ?_)
  show z_V _ _ _ _ _ _ _ 0 [some (.ref b)] [] _ 0 0
  rw [hj]
  refine z_s_cs (by decide +kernel) (by decide +kernel) ?_
  refine z_s_if_eq (t := 13) (off := 10) (by decide +kernel) (by decide) (fun q => absurd q (by decide)) (fun _ => ?_)
  refine z_s_aload_n (i := 0) rfl (by decide +kernel) ?_
  refine z_s_co (by decide +kernel) (by decide +kernel) h1 h4 ?_
  refine z_s_goto (t := 14) (off := 4) (by decide +kernel) (by decide) ?_
  exact z_s_ret (i := .ireturn) (r := some (.int 0)) (by decide +kernel) ⟨.byte, 0, by decide +kernel, rfl, by decide⟩ (hQ _ _ ⟨rfl, rfl⟩)
/-- isLatin1 -/
theorem c249 (h1 : 1 ≤ b) (h4 : b ≤ 4) : z_D l 0 249 [.ref b] h (some (.int 1)) h := by
  refine z_ctr (by decide) (by decide +kernel) (Nat.le_of_ble_eq_true rfl) (by decide +kernel) (fun X hl hj hd hm hs hsc hQ => ?_)
  show z_V _ _ _ _ _ _ _ 0 [some (.ref b)] [] _ 0 0
  rw [hj]
  refine z_s_cs (by decide +kernel) (by decide +kernel) ?_
  refine z_s_if_eq (t := 17) (off := 14) (by decide +kernel) (by decide) (fun q => absurd q (by decide)) (fun _ => ?_)
  refine z_s_aload_n (i := 0) rfl (by decide +kernel) ?_
  refine z_s_co (by decide +kernel) (by decide +kernel) h1 h4 ?_
  refine z_s_if_ne (t := 17) (off := 7) (by decide +kernel) (by decide) (fun q => absurd rfl q) (fun _ => ?_)
  refine z_s_iconst (n := 1) (by decide +kernel) ?_
  refine z_s_goto (t := 18) (off := 4) (by decide +kernel) (by decide) ?_
  exact z_s_ret (i := .ireturn) (r := some (.int 1)) (by decide +kernel) ⟨.boolean, 1, by decide +kernel, rfl, by decide⟩ (hQ _ _ ⟨rfl, rfl⟩)
/-- length -/
theorem c246 (h1 : 1 ≤ b) (h4 : b ≤ 4) : z_D l 1 246 [.ref b] h (some (.int (nI (z_len b)))) h := by
  have hz := (z_len_in h1 h4).1
  refine z_ctr (by decide) (by decide +kernel) (Nat.le_of_ble_eq_true rfl) (by decide +kernel) (fun X hl hj hd hm hs hsc hQ => ?_)
  show z_V _ _ _ _ _ _ _ 0 [some (.ref b)] [] _ 0 0
  rw [hj]
  refine z_s_aload_n (i := 0) rfl (by decide +kernel) ?_
  refine z_s_vl (by decide +kernel) (by decide +kernel) (by decide +kernel) h1 h4 ?_
  refine z_s_aload_n (i := 0) rfl (by decide +kernel) ?_
  refine z_s_invT (as := []) (i := 335) (rest := [.int (nI (z_len b))]) (j' := 248) (by decide +kernel) (by decide) (by decide +kernel) (by decide +kernel) (by decide +kernel) h1 h4 (by decide +kernel) (Nat.le_of_ble_eq_true rfl) (show (0 : Nat) < X.2.2.1 by omega) (c248 h1 h4) (by omega) (by omega) (fun r h' q => ?_)
  obtain ⟨rfl, rfl⟩ := q
  refine z_s_ishr (by decide +kernel) ?_
  have e : nI (z_len b) >>> ((0 : Int32) &&& 31) = nI (z_len b) := by
    rw [show ((0 : Int32) &&& 31) = (nI 0 &&& 31) from rfl, nI_shr (by omega) (by omega)]
    simp
  rw [e]
  exact z_s_ret (i := .ireturn) (r := some (.int (nI (z_len b)))) (by decide +kernel) ⟨.int, _, by decide +kernel, rfl, rfl⟩ (hQ _ _ ⟨rfl, rfl⟩)
theorem z_byt_ok : ∀ b, b < 5 → ∀ k, k < 6 → ((((z_byt b).getD k 0 &&& 255).toUInt32 % 65536).toInt32 = (z_byt b).getD k 0 ∧ narrow .char (.int ((z_byt b).getD k 0)) = .int ((z_byt b).getD k 0)) := by decide +kernel
/-- charAt -/
theorem c247 (h1 : 1 ≤ b) (h4 : b ≤ 4) {k : Nat} (hk : k < z_len b) : z_D l 3 247 [.ref b, .int (nI k)] h (some (.int ((z_byt b).getD k 0))) h := by
  have hz := (z_len_in h1 h4).1
  obtain ⟨e1, e2⟩ := z_byt_ok b (by omega) k (by omega)
  refine z_ctr (by decide) (by decide +kernel) (Nat.le_of_ble_eq_true rfl) (by decide +kernel) (fun X hl hj hd hm hs hsc hQ => ?_)
  show z_V _ _ _ _ _ _ _ 0 [some (.ref b), some (.int (nI k))] [] _ 0 0
  rw [hj]
  refine z_s_aload_n (i := 0) rfl (by decide +kernel) ?_
  refine z_s_invT (as := []) (i := 492) (rest := []) (j' := 249) (by decide +kernel) (by decide) (by decide +kernel) (by decide +kernel) (by decide +kernel) h1 h4 (by decide +kernel) (by decide) (show (0 : Nat) < X.2.2.1 by omega) (c249 h1 h4) (by omega) (by omega) (fun r h' q => ?_)
  obtain ⟨rfl, rfl⟩ := q
  refine z_s_if_eq (t := 16) (off := 12) (by decide +kernel) (by decide) (fun q => absurd q (by decide)) (fun _ => ?_)
  refine z_s_aload_n (i := 0) rfl (by decide +kernel) ?_
  refine z_s_ch hk (by decide +kernel) (by decide +kernel) (by decide +kernel) (by decide +kernel) (by decide +kernel) h1 h4 (by omega) rfl e1 e2 ?_
  exact z_s_ret (i := .ireturn) (r := some (.int ((z_byt b).getD k 0))) (by decide +kernel) ⟨.char, _, by decide +kernel, rfl, e2⟩ (hQ _ _ ⟨rfl, rfl⟩)
end STR3
