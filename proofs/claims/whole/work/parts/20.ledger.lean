/-! Ledger -/
theorem c_takes {l : Launch} {d : Nat} {n : Nat} {K L : Nat → Nat} {I : Nat → Nat → Int32} {J : Nat → Nat → Int64} {G : Nat → Nat → Value} {p q : Nat} {day : Int32} {c : Nat} (hp : K p = 4) (hg : G p 2 = .ref q) (hq : K q = 13) (hL : L q = 400) (hc : I p 3 = nI c) (hc4 : c ≤ 400) :
    z_Ctr l d 44 [.ref p, .int day] (n, K, L, I, J, G) 0 0 (fun r h' => h' = (n, K, L, I, J, G) ∧ r = some (.int (if c < 400 ∧ (c = 0 ∨ I q (c - 1) ≤ day) then 1 else 0))) := by
  refine z_ctr (by decide) (by decide +kernel) (by decide +kernel) (by decide +kernel) (fun X hl hj hd hm hs hsc hQ => ?_)
  refine zW_ok hj B44_0 0 _ _ _ _ _ b44_0 ?_
  simp only [B44_0, zW, z_wp1, z_ld]
  sorry
