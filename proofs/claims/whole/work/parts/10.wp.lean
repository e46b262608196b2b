/-! THE WALK AS A FORMULA: blocks of instructions, checked against the bytes; what a block asks -/
abbrev zOp : Type := Nat × Nat × Instr × List Nat × Int
abbrev zX : Type := Launch × Nat × Nat × Nat × Nat × Option (Nat × (Nat → Int32)) × (Option Value → zH → Prop)
def zV (X : zX) (pc : Nat) (ls : List (Option Value)) (st : List Value) (h : zH) (uc us : Nat) : Prop := z_V X.1 X.2.1 X.2.2.1 X.2.2.2.1 X.2.2.2.2.1 X.2.2.2.2.2.1 X.2.2.2.2.2.2 pc ls st h uc us
abbrev zK : Type := List (Option Value) → List Value → zH → Nat → Nat → Prop
def z_ld (ls : List (Option Value)) (k : Nat) (F : Value → Prop) : Prop := match ls[k]? with
  | some (some v) => F v
  | _ => False
/-- a call: with what contract, and what follows -/
def z_call (X : zX) (j' : Nat) (as rest : List Value) (h : zH) (uc us : Nat) (K : List Value → zH → Nat → Nat → Prop) : Prop :=
  ∃ (d' mc' ms' : Nat) (Q' : Option Value → zH → Prop), d' < X.2.2.1 ∧ z_Ctr X.1 d' j' as h mc' ms' Q' ∧ uc + mc' ≤ X.2.2.2.1 ∧ us + ms' ≤ X.2.2.2.2.1 ∧ (rest.map (fun v => v.category)).sum ≤ 8 ∧ ∀ (r : Option Value) (h' : zH), Q' r h' → K (r.toList ++ rest) h' (uc + mc') (us + ms')
def z_tsw (X : zX) (pc : Nat) (x : Int32) (lo hi : Int) (ls : List (Option Value)) (st : List Value) (h : zH) (uc us : Nat) : Nat → List Nat → Prop := fun t0 ts =>
  ((x.toInt < lo ∨ hi < x.toInt) → zV X t0 ls st h uc us) ∧ (¬ x.toInt < lo → ¬ hi < x.toInt → ∃ t, ts[(x.toInt - lo).toNat]? = some t ∧ zV X t ls st h uc us)
def z_wp1 (X : zX) (pc : Nat) (i : Instr) (info : List Nat) (cst : Int) (ls : List (Option Value)) (st : List Value) (h : zH) (uc us : Nat) (Kn : zK) : Prop := match i with
  | .iconst n => Kn ls (.int (Int32.ofInt n) :: st) h uc us
  | .bipush n => Kn ls (.int (Int32.ofInt n) :: st) h uc us
  | .sipush n => Kn ls (.int (Int32.ofInt n) :: st) h uc us
  | .lconst n => Kn ls (.long (Int64.ofNat (n : Nat)) :: st) h uc us
  | .ldc _ => Kn ls (.int (Int32.ofInt cst) :: st) h uc us
  | .ldc_w _ => Kn ls (.int (Int32.ofInt cst) :: st) h uc us
  | .ldc2_w _ => Kn ls (.long (Int64.ofInt cst) :: st) h uc us
  | .iload k => z_ld ls k (fun v => match v with
    | .int x => Kn ls (.int x :: st) h uc us
    | _ => False)
  | .iload_n k => z_ld ls k (fun v => match v with
    | .int x => Kn ls (.int x :: st) h uc us
    | _ => False)
  | .lload k => z_ld ls k (fun v => match v with
    | .long x => Kn ls (.long x :: st) h uc us
    | _ => False)
  | .lload_n k => z_ld ls k (fun v => match v with
    | .long x => Kn ls (.long x :: st) h uc us
    | _ => False)
  | .aload k => z_ld ls k (fun v => match v with
    | .ref x => Kn ls (.ref x :: st) h uc us
    | _ => False)
  | .aload_n k => z_ld ls k (fun v => match v with
    | .ref x => Kn ls (.ref x :: st) h uc us
    | _ => False)
  | .istore k => match st with
    | .int x :: r => Kn (z_set ls (k : Nat) (.int x)) (r) h uc us
    | _ => False
  | .istore_n k => match st with
    | .int x :: r => Kn (z_set ls (k : Nat) (.int x)) (r) h uc us
    | _ => False
  | .astore k => match st with
    | .ref x :: r => Kn (z_set ls (k : Nat) (.ref x)) (r) h uc us
    | _ => False
  | .astore_n k => match st with
    | .ref x :: r => Kn (z_set ls (k : Nat) (.ref x)) (r) h uc us
    | _ => False
  | .lstore k => match st with
    | .long x :: r => Kn (z_set2 ls (k : Nat) (.long x)) (r) h uc us
    | _ => False
  | .lstore_n k => match st with
    | .long x :: r => Kn (z_set2 ls (k : Nat) (.long x)) (r) h uc us
    | _ => False
  | .iinc k n => z_ld ls k (fun v => match v with
    | .int x => Kn (z_set ls k (.int (x + Int32.ofInt n))) (st) h uc us
    | _ => False)
  | .iadd => match st with
    | .int y :: .int x :: r => Kn ls (.int (x + y) :: r) h uc us
    | _ => False
  | .isub => match st with
    | .int y :: .int x :: r => Kn ls (.int (x - y) :: r) h uc us
    | _ => False
  | .imul => match st with
    | .int y :: .int x :: r => Kn ls (.int (x * y) :: r) h uc us
    | _ => False
  | .iand => match st with
    | .int y :: .int x :: r => Kn ls (.int (x &&& y) :: r) h uc us
    | _ => False
  | .ior => match st with
    | .int y :: .int x :: r => Kn ls (.int (x ||| y) :: r) h uc us
    | _ => False
  | .ixor => match st with
    | .int y :: .int x :: r => Kn ls (.int (x ^^^ y) :: r) h uc us
    | _ => False
  | .ishl => match st with
    | .int y :: .int x :: r => Kn ls (.int (x <<< (y &&& 31)) :: r) h uc us
    | _ => False
  | .ishr => match st with
    | .int y :: .int x :: r => Kn ls (.int (x >>> (y &&& 31)) :: r) h uc us
    | _ => False
  | .iushr => match st with
    | .int y :: .int x :: r => Kn ls (.int ((x.toUInt32 >>> (y.toUInt32 &&& Int32.toUInt32 31)).toInt32) :: r) h uc us
    | _ => False
  | .idiv => match st with
    | .int y :: .int x :: r => ¬ y = 0 ∧ Kn ls (.int (x / y) :: r) h uc us
    | _ => False
  | .ineg => match st with
    | .int x :: r => Kn ls (.int (-x) :: r) h uc us
    | _ => False
  | .i2l => match st with
    | .int x :: r => Kn ls (.long x.toInt64 :: r) h uc us
    | _ => False
  | .i2c => match st with
    | .int x :: r => Kn ls (.int (x.toUInt32 % 65536).toInt32 :: r) h uc us
    | _ => False
  | .ladd => match st with
    | .long y :: .long x :: r => Kn ls (.long (x + y) :: r) h uc us
    | _ => False
  | .lsub => match st with
    | .long y :: .long x :: r => Kn ls (.long (x - y) :: r) h uc us
    | _ => False
  | .lmul => match st with
    | .long y :: .long x :: r => Kn ls (.long (x * y) :: r) h uc us
    | _ => False
  | .land => match st with
    | .long y :: .long x :: r => Kn ls (.long (x &&& y) :: r) h uc us
    | _ => False
  | .lor => match st with
    | .long y :: .long x :: r => Kn ls (.long (x ||| y) :: r) h uc us
    | _ => False
  | .lcmp => match st with
    | .long y :: .long x :: r => Kn ls (.int (lg_cmp x y) :: r) h uc us
    | _ => False
  | .lshl => match st with
    | .int y :: .long x :: r => Kn ls (.long (x <<< (y.toInt64 &&& 63)) :: r) h uc us
    | _ => False
  | .lushr => match st with
    | .int y :: .long x :: r => Kn ls (.long (x.toUInt64 >>> (y.toInt64.toUInt64 &&& Int64.toUInt64 63)).toInt64 :: r) h uc us
    | _ => False
  | .dup => match st with
    | v :: r => v.category = 1 ∧ Kn ls (v :: v :: r) h uc us
    | _ => False
  | .dup2 => match st with
    | v :: w :: r => v.category = 1 ∧ w.category = 1 ∧ Kn ls (v :: w :: v :: w :: r) h uc us
    | _ => False
  | .pop => match st with
    | v :: r => v.category = 1 ∧ Kn ls (r) h uc us
    | _ => False
  | .if_icmp .eq _ => match st, info with
    | .int y :: .int x :: r, [t] => ((x = y) → zV X t ls r h uc us) ∧ ((¬ x = y) → Kn ls (r) h uc us)
    | _, _ => False
  | .if_icmp .ne _ => match st, info with
    | .int y :: .int x :: r, [t] => ((¬ x = y) → zV X t ls r h uc us) ∧ ((x = y) → Kn ls (r) h uc us)
    | _, _ => False
  | .if_icmp .lt _ => match st, info with
    | .int y :: .int x :: r, [t] => ((x < y) → zV X t ls r h uc us) ∧ ((¬ x < y) → Kn ls (r) h uc us)
    | _, _ => False
  | .if_icmp .ge _ => match st, info with
    | .int y :: .int x :: r, [t] => ((y ≤ x) → zV X t ls r h uc us) ∧ ((¬ y ≤ x) → Kn ls (r) h uc us)
    | _, _ => False
  | .if_icmp .gt _ => match st, info with
    | .int y :: .int x :: r, [t] => ((y < x) → zV X t ls r h uc us) ∧ ((¬ y < x) → Kn ls (r) h uc us)
    | _, _ => False
  | .if_icmp .le _ => match st, info with
    | .int y :: .int x :: r, [t] => ((x ≤ y) → zV X t ls r h uc us) ∧ ((¬ x ≤ y) → Kn ls (r) h uc us)
    | _, _ => False
  | .ifCond .eq _ => match st, info with
    | .int x :: r, [t] => ((x = 0) → zV X t ls r h uc us) ∧ ((¬ x = 0) → Kn ls (r) h uc us)
    | _, _ => False
  | .ifCond .ne _ => match st, info with
    | .int x :: r, [t] => ((¬ x = 0) → zV X t ls r h uc us) ∧ ((x = 0) → Kn ls (r) h uc us)
    | _, _ => False
  | .ifCond .lt _ => match st, info with
    | .int x :: r, [t] => ((x < 0) → zV X t ls r h uc us) ∧ ((¬ x < 0) → Kn ls (r) h uc us)
    | _, _ => False
  | .ifCond .ge _ => match st, info with
    | .int x :: r, [t] => ((0 ≤ x) → zV X t ls r h uc us) ∧ ((¬ 0 ≤ x) → Kn ls (r) h uc us)
    | _, _ => False
  | .ifCond .gt _ => match st, info with
    | .int x :: r, [t] => ((0 < x) → zV X t ls r h uc us) ∧ ((¬ 0 < x) → Kn ls (r) h uc us)
    | _, _ => False
  | .ifCond .le _ => match st, info with
    | .int x :: r, [t] => ((x ≤ 0) → zV X t ls r h uc us) ∧ ((¬ x ≤ 0) → Kn ls (r) h uc us)
    | _, _ => False
  | .goto _ => match info with
    | [t] => zV X t ls st h uc us
    | _ => False
  | .tableswitch _ lo hi _ => match st, info with
    | .int x :: r, t0 :: ts => z_tsw X pc x lo hi ls r h uc us t0 ts
    | _, _ => False
  | .getfield _ => match st, info with
    | .ref a :: r, [c, k, 0] => h.2.1 a = c ∧ Kn ls (.int (h.2.2.2.1 a k) :: r) h uc us
    | .ref a :: r, [c, k, 3] => h.2.1 a = c ∧ Kn ls (.int (h.2.2.2.1 a k) :: r) h uc us
    | .ref a :: r, [c, k, 1] => h.2.1 a = c ∧ Kn ls (.long (h.2.2.2.2.1 a k) :: r) h uc us
    | .ref a :: r, [c, k, 2] => h.2.1 a = c ∧ Kn ls (h.2.2.2.2.2 a k :: r) h uc us
    | _, _ => False
  | .putfield _ => match st, info with
    | .int x :: .ref a :: r, [c, k, 0] => h.2.1 a = c ∧ Kn ls r (z_hI h (z_u h.2.2.2.1 a k x)) uc us
    | .int x :: .ref a :: r, [c, k, 3] => h.2.1 a = c ∧ (x = 0 ∨ x = 1) ∧ Kn ls r (z_hI h (z_u h.2.2.2.1 a k x)) uc us
    | .long x :: .ref a :: r, [c, k, 1] => h.2.1 a = c ∧ Kn ls r (z_hJ h (z_u h.2.2.2.2.1 a k x)) uc us
    | .ref b :: .ref a :: r, [c, k, 2] => h.2.1 a = c ∧ Kn ls r (z_hG h (z_u h.2.2.2.2.2 a k (.ref b))) uc us
    | _, _ => False
  | .iaload => match st, info with
    | .int i :: .ref a :: r, [] => h.2.1 a = 13 ∧ vp_in i (h.2.2.1 a) ∧ Kn ls (.int (h.2.2.2.1 a i.toNatClampNeg) :: r) h uc us
    | .int i :: .ref a :: r, [_] => a = 0 ∧ ∃ x, X.2.2.2.2.2.1 = some x ∧ vp_in i x.1 ∧ Kn ls (.int (x.2 i.toNatClampNeg) :: r) h uc us
    | _, _ => False
  | .caload => match st with
    | .int i :: .ref a :: r => h.2.1 a = 12 ∧ vp_in i (h.2.2.1 a) ∧ Kn ls (.int (h.2.2.2.1 a i.toNatClampNeg) :: r) h uc us
    | _ => False
  | .baload => match st with
    | .int i :: .ref a :: r => h.2.1 a = 15 ∧ vp_in i (h.2.2.1 a) ∧ Kn ls (.int (h.2.2.2.1 a i.toNatClampNeg) :: r) h uc us
    | _ => False
  | .laload => match st with
    | .int i :: .ref a :: r => h.2.1 a = 14 ∧ vp_in i (h.2.2.1 a) ∧ Kn ls (.long (h.2.2.2.2.1 a i.toNatClampNeg) :: r) h uc us
    | _ => False
  | .aaload => match st with
    | .int i :: .ref a :: r => h.2.1 a = 16 ∧ vp_in i (h.2.2.1 a) ∧ Kn ls (h.2.2.2.2.2 a i.toNatClampNeg :: r) h uc us
    | _ => False
  | .iastore => match st with
    | .int x :: .int i :: .ref a :: r => h.2.1 a = 13 ∧ vp_in i (h.2.2.1 a) ∧ Kn ls r (z_hI h (z_u h.2.2.2.1 a i.toNatClampNeg x)) uc us
    | _ => False
  | .castore => match st with
    | .int x :: .int i :: .ref a :: r => h.2.1 a = 12 ∧ vp_in i (h.2.2.1 a) ∧ vp_nar .char x = x ∧ Kn ls r (z_hI h (z_u h.2.2.2.1 a i.toNatClampNeg x)) uc us
    | _ => False
  | .bastore => match st with
    | .int x :: .int i :: .ref a :: r => h.2.1 a = 15 ∧ vp_in i (h.2.2.1 a) ∧ vp_nar .boolean x = x ∧ Kn ls r (z_hI h (z_u h.2.2.2.1 a i.toNatClampNeg x)) uc us
    | _ => False
  | .lastore => match st with
    | .long x :: .int i :: .ref a :: r => h.2.1 a = 14 ∧ vp_in i (h.2.2.1 a) ∧ Kn ls r (z_hJ h (z_u h.2.2.2.2.1 a i.toNatClampNeg x)) uc us
    | _ => False
  | .aastore => match st with
    | .ref b :: .int i :: .ref a :: r => h.2.1 a = 16 ∧ h.2.1 b = 3 ∧ vp_in i (h.2.2.1 a) ∧ Kn ls r (z_hG h (z_u h.2.2.2.2.2 a i.toNatClampNeg (.ref b))) uc us
    | _ => False
  | .arraylength => match st, info with
    | .ref a :: r, [] => (12 ≤ h.2.1 a ∧ h.2.1 a ≤ 16) ∧ Kn ls (.int (Int32.ofNat (h.2.2.1 a)) :: r) h uc us
    | .ref a :: r, [_] => a = 0 ∧ ∃ x, X.2.2.2.2.2.1 = some x ∧ Kn ls (.int (Int32.ofNat x.1) :: r) h uc us
    | _, _ => False
  | .new _ => match info with
    | [c, n] => uc + 1 ≤ X.2.2.2.1 ∧ us + n ≤ X.2.2.2.2.1 ∧ Kn ls (.ref h.1 :: st) (z_hN h c 0) (uc + 1) (us + n)
    | _ => False
  | .newarray at0 => match st, info with
    | .int n :: r, [kd] => ¬ n < 0 ∧ n.toNatClampNeg ≤ 65536 ∧ uc + 1 ≤ X.2.2.2.1 ∧ us + n.toNatClampNeg ≤ X.2.2.2.2.1 ∧ Kn ls (.ref h.1 :: r) (z_hN h kd n.toNatClampNeg) (uc + 1) (us + n.toNatClampNeg)
    | _, _ => False
  | .anewarray _ => match st with
    | .int n :: r => ¬ n < 0 ∧ n.toNatClampNeg ≤ 65536 ∧ uc + 1 ≤ X.2.2.2.1 ∧ us + n.toNatClampNeg ≤ X.2.2.2.2.1 ∧ Kn ls (.ref h.1 :: r) (z_hN h 16 n.toNatClampNeg) (uc + 1) (us + n.toNatClampNeg)
    | _ => False
  | .invokevirtual _ => match info, st.drop (info.getD 1 0) with
    | [j', na, o'], .ref b :: r => h.2.1 b = o' ∧ z_call X j' (.ref b :: (st.take na).reverse) r h uc us (Kn ls)
    | _, _ => False
  | .invokestatic _ => match info, st with
    | [245], .int y :: .int x :: r => 1 ≤ X.2.2.1 ∧ (r.map (fun v => v.category)).sum ≤ 8 ∧ Kn ls (.int (if x < y then y else x) :: r) h uc us
    | [244], .int x :: r => 1 ≤ X.2.2.1 ∧ (r.map (fun v => v.category)).sum ≤ 8 ∧ Kn ls (.int (if 0 ≤ x then x else 0 - x) :: r) h uc us
    | [j', na], st => na ≤ st.length ∧ z_call X j' (st.take na).reverse (st.drop na) h uc us (Kn ls)
    | _, _ => False
  | .invokespecial _ => match info, st.drop (info.getD 1 0) with
    | [999], .ref _ :: r => 1 ≤ X.2.2.1 ∧ (r.map (fun v => v.category)).sum ≤ 8 ∧ Kn ls r h uc us
    | [j', na], .ref b :: r => z_call X j' (.ref b :: (st.take na).reverse) r h uc us (Kn ls)
    | _, _ => False
  | .ireturn => match st, info with
    | [.int v], [0] => X.2.2.2.2.2.2 (some (.int v)) h
    | [.int v], [3] => (v = 0 ∨ v = 1) ∧ X.2.2.2.2.2.2 (some (.int v)) h
    | _, _ => False
  | .lreturn => match st with
    | [.long v] => X.2.2.2.2.2.2 (some (.long v)) h
    | _ => False
  | .areturn => match st with
    | [.ref v] => X.2.2.2.2.2.2 (some (.ref v)) h
    | _ => False
  | .return_ => match st with
    | [] => X.2.2.2.2.2.2 none h
    | _ => False
  | _ => False
def z_tkB : FieldType → Nat → Bool
  | .int, 0 => true
  | .boolean, 3 => true
  | .long, 1 => true
  | .object _, 2 => true
  | .array _, 2 => true
  | _, _ => false
def z_decB (j pc len : Nat) (i : Instr) : Bool := match decode (z_C j) pc with
  | .ok (i', len') => decide (i' = i) && decide (len' = len)
  | _ => false
theorem z_dec {j pc len : Nat} {i : Instr} (h : z_decB j pc len i = true) : decode (z_C j) pc = .ok (i, len) := by
  unfold z_decB at h
  split at h
  · rename_i i' len' e
    simp only [Bool.and_eq_true, decide_eq_true_eq] at h
    rw [e, h.1, h.2]
  · cases h
def z_lnk (j pc len : Nat) (i : Instr) (info : List Nat) (cst : Int) : Bool := match i with
  | .iconst n => decide (len = 1) && (true)
  | .bipush n => decide (len = 2) && (decide ((Int8.ofInt n).toInt32 = Int32.ofInt n))
  | .sipush n => decide (len = 3) && (decide ((Int16.ofInt n).toInt32 = Int32.ofInt n))
  | .lconst _ => decide (len = 1) && (true)
  | .ldc i => decide (len = 2) && (decide ((z_O j, i, cst) ∈ z_cl))
  | .ldc_w i => decide (len = 3) && (decide ((z_O j, i, cst) ∈ z_cl))
  | .ldc2_w i => decide (len = 3) && (decide ((z_O j, i, cst) ∈ z_cL))
  | .iload _ => decide (len = 2) && (true)
  | .iload_n _ => decide (len = 1) && (true)
  | .lload _ => decide (len = 2) && (true)
  | .lload_n _ => decide (len = 1) && (true)
  | .aload _ => decide (len = 2) && (true)
  | .aload_n _ => decide (len = 1) && (true)
  | .istore k => decide (len = 2) && (decide ((k : Nat) < z_L j))
  | .istore_n k => decide (len = 1) && (decide ((k : Nat) < z_L j))
  | .astore k => decide (len = 2) && (decide ((k : Nat) < z_L j))
  | .astore_n k => decide (len = 1) && (decide ((k : Nat) < z_L j))
  | .lstore k => decide (len = 2) && (decide ((k : Nat) + 1 < z_L j))
  | .lstore_n k => decide (len = 1) && (decide ((k : Nat) + 1 < z_L j))
  | .iinc k _ => decide (len = 3) && (decide (k < z_L j))
  | .iadd => decide (len = 1) && (true)
  | .isub => decide (len = 1) && (true)
  | .imul => decide (len = 1) && (true)
  | .iand => decide (len = 1) && (true)
  | .ior => decide (len = 1) && (true)
  | .ixor => decide (len = 1) && (true)
  | .ishl => decide (len = 1) && (true)
  | .ishr => decide (len = 1) && (true)
  | .iushr => decide (len = 1) && (true)
  | .idiv => decide (len = 1) && (true)
  | .ineg => decide (len = 1) && (true)
  | .i2l => decide (len = 1) && (true)
  | .i2c => decide (len = 1) && (true)
  | .ladd => decide (len = 1) && (true)
  | .lsub => decide (len = 1) && (true)
  | .lmul => decide (len = 1) && (true)
  | .land => decide (len = 1) && (true)
  | .lor => decide (len = 1) && (true)
  | .lcmp => decide (len = 1) && (true)
  | .lshl => decide (len = 1) && (true)
  | .lushr => decide (len = 1) && (true)
  | .dup => decide (len = 1) && (true)
  | .dup2 => decide (len = 1) && (true)
  | .pop => decide (len = 1) && (true)
  | .iaload => decide (len = 1) && (true)
  | .caload => decide (len = 1) && (true)
  | .baload => decide (len = 1) && (true)
  | .laload => decide (len = 1) && (true)
  | .aaload => decide (len = 1) && (true)
  | .iastore => decide (len = 1) && (true)
  | .castore => decide (len = 1) && (true)
  | .bastore => decide (len = 1) && (true)
  | .lastore => decide (len = 1) && (true)
  | .aastore => decide (len = 1) && (true)
  | .arraylength => decide (len = 1) && (true)
  | .if_icmp _ off => decide (len = 3) && (match info with | [t] => decide ((pc : Int) + off = (t : Int)) | _ => false)
  | .ifCond _ off => decide (len = 3) && (match info with | [t] => decide ((pc : Int) + off = (t : Int)) | _ => false)
  | .goto off => decide (len = 3) && (match info with | [t] => decide ((pc : Int) + off = (t : Int)) | _ => false)
  | .tableswitch dflt _ _ offs => decide (len = len) && (match info with | t0 :: ts => decide ((pc : Int) + dflt = (t0 : Int)) && decide (offs.toList.map (fun o => (pc : Int) + o) = ts.map Int.ofNat) | _ => false)
  | .getfield i => decide (len = 3) && (match info with | [c, k, t] => z_fokB (z_O j) i c k && z_tkB (z_ty c k) t | _ => false)
  | .putfield i => decide (len = 3) && (match info with | [c, k, t] => z_pok j i c k && z_tkB (z_ty c k) t | _ => false)
  | .new i => decide (len = 3) && (match info with | [c, n] => decide (c < 12) && decide ((z_O j, i, c) ∈ z_nl) && decide (n = z_num c) | _ => false)
  | .newarray at0 => decide (len = 2) && (match info with | [kd] => decide (z_atk at0 = kd) && decide (kd ≠ 0) | _ => false)
  | .anewarray i => decide (len = 3) && (decide ((z_O j, i, 3) ∈ z_nl))
  | .invokevirtual i => decide (len = 3) && (match info with | [j', na, o'] => z_cokB (z_O j) i j' && decide (z_Kd j' = 1) && decide (z_O j' = o') && decide (o' < 12) && decide (na = z_An j') | _ => false)
  | .invokestatic i => decide (len = 3) && (match info with | [245] => decide ((z_O j, i, 245) ∈ z_ml) | [244] => decide ((z_O j, i, 244) ∈ z_ml) | [j', na] => z_cokB (z_O j) i j' && decide (z_Kd j' = 0) && decide (na = z_An j') | _ => false)
  | .invokespecial i => decide (len = 3) && (match info with | [999] => decide ((z_O j, i, 999) ∈ z_ml) | [j', na] => z_cokB (z_O j) i j' && decide (z_Kd j' = 2) && decide ((z_y j').name = "<init>") && decide (z_R j' = none) && decide (na = z_An j') | _ => false)
  | .ireturn => decide (len = 1) && (match info with | [0] => decide (z_R j = some .int) | [3] => decide (z_R j = some .boolean) | _ => false)
  | .lreturn => decide (len = 1) && (decide (z_R j = some .long))
  | .areturn => decide (len = 1) && (match z_R j with | some (.object _) => true | some (.array _) => true | _ => false)
  | .return_ => decide (len = 1) && (decide (z_R j = none))
  | _ => false
def z_opok (j : Nat) (op : zOp) : Bool := z_decB j op.1 op.2.1 op.2.2.1 && z_lnk j op.1 op.2.1 op.2.2.1 op.2.2.2.1 op.2.2.2.2
theorem z_tk {ty : FieldType} {t : Nat} (h : z_tkB ty t = true) : (t = 0 ∧ ty = .int) ∨ (t = 3 ∧ ty = .boolean) ∨ (t = 1 ∧ ty = .long) ∨ (t = 2 ∧ z_rr ty = true) := by
  unfold z_tkB at h
  split at h <;> first | (cases h; done) | simp [z_rr]
set_option maxHeartbeats 4000000 in
theorem z_wp1_ok {X : zX} {j pc len : Nat} {i : Instr} {info : List Nat} {cst : Int} {ls : List (Option Value)} {st : List Value} {h : zH} {uc us : Nat} {Kn : zK} (hj : X.2.1 = j) (hd : z_decB j pc len i = true) (hk : z_lnk j pc len i info cst = true) (hw : z_wp1 X pc i info cst ls st h uc us Kn) (kk : ∀ ls' st' h' uc' us', Kn ls' st' h' uc' us' → zV X (pc + len) ls' st' h' uc' us') : zV X pc ls st h uc us := by
  subst hj
  replace hd := z_dec hd
  obtain ⟨l, j, d, mc, ms, SC, Qf⟩ := X
  dsimp only at *
  cases i <;> first | exact hw.elim | (simp only [z_lnk, Bool.and_eq_true, decide_eq_true_eq] at hk)
  case iconst n =>
    obtain ⟨rfl, -⟩ := hk
    exact z_s_iconst hd (kk _ _ _ _ _ hw)
  case lconst n =>
    obtain ⟨rfl, -⟩ := hk
    exact z_s_lconst hd (kk _ _ _ _ _ hw)
  case bipush n =>
    obtain ⟨rfl, hv⟩ := hk
    exact z_s_bipush hv hd (kk _ _ _ _ _ hw)
  case sipush n =>
    obtain ⟨rfl, hv⟩ := hk
    exact z_s_sipush hv hd (kk _ _ _ _ _ hw)
  case ldc i =>
    obtain ⟨rfl, hv⟩ := hk
    exact z_s_ldc hd hv (kk _ _ _ _ _ hw)
  case ldc_w i =>
    obtain ⟨rfl, hv⟩ := hk
    exact z_s_ldc_w hd hv (kk _ _ _ _ _ hw)
  case ldc2_w i =>
    obtain ⟨rfl, hv⟩ := hk
    exact z_s_ldc2_w hd hv (kk _ _ _ _ _ hw)
  case iload k =>
    obtain ⟨rfl, -⟩ := hk
    simp only [z_wp1, z_ld] at hw
    split at hw
    · rename_i v hv
      split at hw
      · exact z_s_iload hv hd (kk _ _ _ _ _ hw)
      · exact hw.elim
    · exact hw.elim
  case iload_n k =>
    obtain ⟨rfl, -⟩ := hk
    simp only [z_wp1, z_ld] at hw
    split at hw
    · rename_i v hv
      split at hw
      · exact z_s_iload_n hv hd (kk _ _ _ _ _ hw)
      · exact hw.elim
    · exact hw.elim
  case lload k =>
    obtain ⟨rfl, -⟩ := hk
    simp only [z_wp1, z_ld] at hw
    split at hw
    · rename_i v hv
      split at hw
      · exact z_s_lload hv hd (kk _ _ _ _ _ hw)
      · exact hw.elim
    · exact hw.elim
  case lload_n k =>
    obtain ⟨rfl, -⟩ := hk
    simp only [z_wp1, z_ld] at hw
    split at hw
    · rename_i v hv
      split at hw
      · exact z_s_lload_n hv hd (kk _ _ _ _ _ hw)
      · exact hw.elim
    · exact hw.elim
  case aload k =>
    obtain ⟨rfl, -⟩ := hk
    simp only [z_wp1, z_ld] at hw
    split at hw
    · rename_i v hv
      split at hw
      · exact z_s_aload hv hd (kk _ _ _ _ _ hw)
      · exact hw.elim
    · exact hw.elim
  case aload_n k =>
    obtain ⟨rfl, -⟩ := hk
    simp only [z_wp1, z_ld] at hw
    split at hw
    · rename_i v hv
      split at hw
      · exact z_s_aload_n hv hd (kk _ _ _ _ _ hw)
      · exact hw.elim
    · exact hw.elim
  case istore k =>
    obtain ⟨rfl, hv⟩ := hk
    simp only [z_wp1] at hw
    split at hw
    · exact z_s_istore hd hv (kk _ _ _ _ _ hw)
    · exact hw.elim
  case istore_n k =>
    obtain ⟨rfl, hv⟩ := hk
    simp only [z_wp1] at hw
    split at hw
    · exact z_s_istore_n hd hv (kk _ _ _ _ _ hw)
    · exact hw.elim
  case astore k =>
    obtain ⟨rfl, hv⟩ := hk
    simp only [z_wp1] at hw
    split at hw
    · exact z_s_astore hd hv (kk _ _ _ _ _ hw)
    · exact hw.elim
  case astore_n k =>
    obtain ⟨rfl, hv⟩ := hk
    simp only [z_wp1] at hw
    split at hw
    · exact z_s_astore_n hd hv (kk _ _ _ _ _ hw)
    · exact hw.elim
  case lstore k =>
    obtain ⟨rfl, hv⟩ := hk
    simp only [z_wp1] at hw
    split at hw
    · exact z_s_lstore hd hv (kk _ _ _ _ _ hw)
    · exact hw.elim
  case lstore_n k =>
    obtain ⟨rfl, hv⟩ := hk
    simp only [z_wp1] at hw
    split at hw
    · exact z_s_lstore_n hd hv (kk _ _ _ _ _ hw)
    · exact hw.elim
  case iinc k n =>
    obtain ⟨rfl, hk⟩ := hk
    simp only [z_wp1, z_ld] at hw
    split at hw
    · rename_i v hv
      split at hw
      · exact z_s_iinc hd hv hk (kk _ _ _ _ _ hw)
      · exact hw.elim
    · exact hw.elim
  case iadd =>
    obtain ⟨rfl, -⟩ := hk
    simp only [z_wp1] at hw
    split at hw
    · exact z_s_iadd hd (kk _ _ _ _ _ hw)
    · exact hw.elim
  case isub =>
    obtain ⟨rfl, -⟩ := hk
    simp only [z_wp1] at hw
    split at hw
    · exact z_s_isub hd (kk _ _ _ _ _ hw)
    · exact hw.elim
  case imul =>
    obtain ⟨rfl, -⟩ := hk
    simp only [z_wp1] at hw
    split at hw
    · exact z_s_imul hd (kk _ _ _ _ _ hw)
    · exact hw.elim
  case iand =>
    obtain ⟨rfl, -⟩ := hk
    simp only [z_wp1] at hw
    split at hw
    · exact z_s_iand hd (kk _ _ _ _ _ hw)
    · exact hw.elim
  case ior =>
    obtain ⟨rfl, -⟩ := hk
    simp only [z_wp1] at hw
    split at hw
    · exact z_s_ior hd (kk _ _ _ _ _ hw)
    · exact hw.elim
  case ixor =>
    obtain ⟨rfl, -⟩ := hk
    simp only [z_wp1] at hw
    split at hw
    · exact z_s_ixor hd (kk _ _ _ _ _ hw)
    · exact hw.elim
  case ishl =>
    obtain ⟨rfl, -⟩ := hk
    simp only [z_wp1] at hw
    split at hw
    · exact z_s_ishl hd (kk _ _ _ _ _ hw)
    · exact hw.elim
  case ishr =>
    obtain ⟨rfl, -⟩ := hk
    simp only [z_wp1] at hw
    split at hw
    · exact z_s_ishr hd (kk _ _ _ _ _ hw)
    · exact hw.elim
  case iushr =>
    obtain ⟨rfl, -⟩ := hk
    simp only [z_wp1] at hw
    split at hw
    · exact z_s_iushr hd (kk _ _ _ _ _ hw)
    · exact hw.elim
  case ineg =>
    obtain ⟨rfl, -⟩ := hk
    simp only [z_wp1] at hw
    split at hw
    · exact z_s_ineg hd (kk _ _ _ _ _ hw)
    · exact hw.elim
  case i2l =>
    obtain ⟨rfl, -⟩ := hk
    simp only [z_wp1] at hw
    split at hw
    · exact z_s_i2l hd (kk _ _ _ _ _ hw)
    · exact hw.elim
  case i2c =>
    obtain ⟨rfl, -⟩ := hk
    simp only [z_wp1] at hw
    split at hw
    · exact z_s_i2c hd (kk _ _ _ _ _ hw)
    · exact hw.elim
  case ladd =>
    obtain ⟨rfl, -⟩ := hk
    simp only [z_wp1] at hw
    split at hw
    · exact z_s_ladd hd (kk _ _ _ _ _ hw)
    · exact hw.elim
  case lsub =>
    obtain ⟨rfl, -⟩ := hk
    simp only [z_wp1] at hw
    split at hw
    · exact z_s_lsub hd (kk _ _ _ _ _ hw)
    · exact hw.elim
  case lmul =>
    obtain ⟨rfl, -⟩ := hk
    simp only [z_wp1] at hw
    split at hw
    · exact z_s_lmul hd (kk _ _ _ _ _ hw)
    · exact hw.elim
  case land =>
    obtain ⟨rfl, -⟩ := hk
    simp only [z_wp1] at hw
    split at hw
    · exact z_s_land hd (kk _ _ _ _ _ hw)
    · exact hw.elim
  case lor =>
    obtain ⟨rfl, -⟩ := hk
    simp only [z_wp1] at hw
    split at hw
    · exact z_s_lor hd (kk _ _ _ _ _ hw)
    · exact hw.elim
  case lcmp =>
    obtain ⟨rfl, -⟩ := hk
    simp only [z_wp1] at hw
    split at hw
    · exact z_s_lcmp hd (kk _ _ _ _ _ hw)
    · exact hw.elim
  case lshl =>
    obtain ⟨rfl, -⟩ := hk
    simp only [z_wp1] at hw
    split at hw
    · exact z_s_lshl hd (kk _ _ _ _ _ hw)
    · exact hw.elim
  case lushr =>
    obtain ⟨rfl, -⟩ := hk
    simp only [z_wp1] at hw
    split at hw
    · exact z_s_lushr hd (kk _ _ _ _ _ hw)
    · exact hw.elim
  case idiv =>
    obtain ⟨rfl, -⟩ := hk
    simp only [z_wp1] at hw
    split at hw
    · exact z_s_idiv hw.1 hd (kk _ _ _ _ _ hw.2)
    · exact hw.elim
  case dup =>
    obtain ⟨rfl, -⟩ := hk
    simp only [z_wp1] at hw
    split at hw
    · exact z_s_dup hw.1 hd (kk _ _ _ _ _ hw.2)
    · exact hw.elim
  case pop =>
    obtain ⟨rfl, -⟩ := hk
    simp only [z_wp1] at hw
    split at hw
    · exact z_s_pop hw.1 hd (kk _ _ _ _ _ hw.2)
    · exact hw.elim
  case dup2 =>
    obtain ⟨rfl, -⟩ := hk
    simp only [z_wp1] at hw
    split at hw
    · exact z_s_dup2 hw.1 hw.2.1 hd (kk _ _ _ _ _ hw.2.2)
    · exact hw.elim
  case if_icmp c off =>
    obtain ⟨rfl, ht⟩ := hk
    cases c <;> simp only [z_wp1] at hw <;> split at hw <;> first | exact hw.elim | skip
    all_goals simp only [decide_eq_true_eq] at ht
    all_goals first
      | exact z_s_icmp_eq hd ht hw.1 (fun q => kk _ _ _ _ _ (hw.2 q))
      | exact z_s_icmp_ne hd ht hw.1 (fun q => kk _ _ _ _ _ (hw.2 q))
      | exact z_s_icmp_lt hd ht hw.1 (fun q => kk _ _ _ _ _ (hw.2 q))
      | exact z_s_icmp_ge hd ht hw.1 (fun q => kk _ _ _ _ _ (hw.2 q))
      | exact z_s_icmp_gt hd ht hw.1 (fun q => kk _ _ _ _ _ (hw.2 q))
      | exact z_s_icmp_le hd ht hw.1 (fun q => kk _ _ _ _ _ (hw.2 q))
  case ifCond c off =>
    obtain ⟨rfl, ht⟩ := hk
    cases c <;> simp only [z_wp1] at hw <;> split at hw <;> first | exact hw.elim | skip
    all_goals simp only [decide_eq_true_eq] at ht
    all_goals first
      | exact z_s_if_eq hd ht hw.1 (fun q => kk _ _ _ _ _ (hw.2 q))
      | exact z_s_if_ne hd ht hw.1 (fun q => kk _ _ _ _ _ (hw.2 q))
      | exact z_s_if_lt hd ht hw.1 (fun q => kk _ _ _ _ _ (hw.2 q))
      | exact z_s_if_ge hd ht hw.1 (fun q => kk _ _ _ _ _ (hw.2 q))
      | exact z_s_if_gt hd ht hw.1 (fun q => kk _ _ _ _ _ (hw.2 q))
      | exact z_s_if_le hd ht hw.1 (fun q => kk _ _ _ _ _ (hw.2 q))
  case goto off =>
    obtain ⟨rfl, ht⟩ := hk
    simp only [z_wp1] at hw
    split at hw
    · simp only [decide_eq_true_eq] at ht
      exact z_s_goto hd ht hw
    · exact hw.elim
  case tableswitch dflt lo hi offs =>
    obtain ⟨-, ht⟩ := hk
    simp only [z_wp1] at hw
    split at hw
    · rename_i x r t0 ts
      simp only [Bool.and_eq_true, decide_eq_true_eq] at ht
      refine z_s_tsw hd ht.1 hw.1 (fun h1 h2 => ?_)
      obtain ⟨t, e1, e2⟩ := hw.2 h1 h2
      have e3 : (ts.map Int.ofNat)[(x.toInt - lo).toNat]? = some (t : Int) := by rw [List.getElem?_map, e1]; rfl
      rw [← ht.2, List.getElem?_map, Array.getElem?_toList] at e3
      cases ho : offs[(x.toInt - lo).toNat]? with
      | none => rw [ho] at e3; cases e3
      | some off =>
        rw [ho] at e3
        exact ⟨off, t, rfl, Option.some.inj e3, e2⟩
    · exact hw.elim
  case getfield i =>
    obtain ⟨rfl, ht⟩ := hk
    simp only [z_wp1] at hw
    split at hw <;> first | exact hw.elim | skip
    all_goals
      simp only [Bool.and_eq_true] at ht
      refine z_s_get hd ht.1 hw.1 ?_
      rcases z_tk ht.2 with ⟨q, e⟩ | ⟨q, e⟩ | ⟨q, e⟩ | ⟨q, e⟩ <;> first | (cases q; done) | skip
      first
        | (rw [e]; exact kk _ _ _ _ _ hw.2)
        | (revert e
           cases hz : z_ty _ _ <;> intro e <;> first | (cases e; done) | exact kk _ _ _ _ _ hw.2)
  case putfield i =>
    obtain ⟨rfl, ht⟩ := hk
    simp only [z_wp1] at hw
    split at hw <;> first | exact hw.elim | skip
    all_goals
      simp only [Bool.and_eq_true] at ht
      rcases z_tk ht.2 with ⟨q, e⟩ | ⟨q, e⟩ | ⟨q, e⟩ | ⟨q, e⟩ <;> first | (cases q; done) | skip
      first
        | exact z_s_putI hd ht.1 hw.1 (by rw [e]; trivial) (kk _ _ _ _ _ hw.2)
        | exact z_s_putI hd ht.1 hw.1 (by rw [e]; exact hw.2.1) (kk _ _ _ _ _ hw.2.2)
        | exact z_s_putJ hd ht.1 e hw.1 (kk _ _ _ _ _ hw.2)
        | exact z_s_putG hd ht.1 e hw.1 (kk _ _ _ _ _ hw.2)
  case iaload =>
    obtain ⟨rfl, -⟩ := hk
    simp only [z_wp1] at hw
    split at hw
    · exact z_s_iaload hd hw.1 hw.2.1 (kk _ _ _ _ _ hw.2.2)
    · obtain ⟨rfl, x, h1, h2, h3⟩ := hw
      exact z_s_sld hd h1 h2 (kk _ _ _ _ _ h3)
    · exact hw.elim
  case caload =>
    obtain ⟨rfl, -⟩ := hk
    simp only [z_wp1] at hw
    split at hw
    · exact z_s_caload hd hw.1 hw.2.1 (kk _ _ _ _ _ hw.2.2)
    · exact hw.elim
  case baload =>
    obtain ⟨rfl, -⟩ := hk
    simp only [z_wp1] at hw
    split at hw
    · exact z_s_baload hd hw.1 hw.2.1 (kk _ _ _ _ _ hw.2.2)
    · exact hw.elim
  case laload =>
    obtain ⟨rfl, -⟩ := hk
    simp only [z_wp1] at hw
    split at hw
    · exact z_s_laload hd hw.1 hw.2.1 (kk _ _ _ _ _ hw.2.2)
    · exact hw.elim
  case aaload =>
    obtain ⟨rfl, -⟩ := hk
    simp only [z_wp1] at hw
    split at hw
    · exact z_s_aaload hd hw.1 hw.2.1 (kk _ _ _ _ _ hw.2.2)
    · exact hw.elim
  case iastore =>
    obtain ⟨rfl, -⟩ := hk
    simp only [z_wp1] at hw
    split at hw
    · exact z_s_iastore hd hw.1 hw.2.1 (kk _ _ _ _ _ hw.2.2)
    · exact hw.elim
  case lastore =>
    obtain ⟨rfl, -⟩ := hk
    simp only [z_wp1] at hw
    split at hw
    · exact z_s_lastore hd hw.1 hw.2.1 (kk _ _ _ _ _ hw.2.2)
    · exact hw.elim
  case castore =>
    obtain ⟨rfl, -⟩ := hk
    simp only [z_wp1] at hw
    split at hw
    · exact z_s_castore hd hw.1 hw.2.1 hw.2.2.1 (kk _ _ _ _ _ hw.2.2.2)
    · exact hw.elim
  case bastore =>
    obtain ⟨rfl, -⟩ := hk
    simp only [z_wp1] at hw
    split at hw
    · exact z_s_bastore hd hw.1 hw.2.1 hw.2.2.1 (kk _ _ _ _ _ hw.2.2.2)
    · exact hw.elim
  case aastore =>
    obtain ⟨rfl, -⟩ := hk
    simp only [z_wp1] at hw
    split at hw
    · exact z_s_aastore hd hw.1 hw.2.1 hw.2.2.1 (kk _ _ _ _ _ hw.2.2.2)
    · exact hw.elim
  case arraylength =>
    obtain ⟨rfl, -⟩ := hk
    simp only [z_wp1] at hw
    split at hw
    · exact z_s_alen hd hw.1 (kk _ _ _ _ _ hw.2)
    · obtain ⟨rfl, x, h1, h3⟩ := hw
      exact z_s_slen hd h1 (kk _ _ _ _ _ h3)
    · exact hw.elim
  case new i =>
    obtain ⟨rfl, ht⟩ := hk
    simp only [z_wp1] at hw
    split at hw
    · simp only [Bool.and_eq_true, decide_eq_true_eq] at ht
      obtain ⟨⟨h1, h2⟩, rfl⟩ := ht
      exact z_s_new hd h2 h1 hw.1 hw.2.1 (kk _ _ _ _ _ hw.2.2)
    · exact hw.elim
  case newarray at0 =>
    obtain ⟨rfl, ht⟩ := hk
    simp only [z_wp1] at hw
    split at hw
    · simp only [Bool.and_eq_true, decide_eq_true_eq] at ht
      obtain ⟨rfl, h2⟩ := ht
      exact z_s_newarray hd h2 hw.1 hw.2.1 hw.2.2.1 hw.2.2.2.1 (kk _ _ _ _ _ hw.2.2.2.2)
    · exact hw.elim
  case anewarray i =>
    obtain ⟨rfl, ht⟩ := hk
    simp only [z_wp1] at hw
    split at hw
    · exact z_s_anewarray hd ht hw.1 hw.2.1 hw.2.2.1 hw.2.2.2.1 (kk _ _ _ _ _ hw.2.2.2.2)
    · exact hw.elim
  case invokevirtual i =>
    obtain ⟨rfl, ht⟩ := hk
    simp only [z_wp1] at hw
    split at hw
    · rename_i j' na o' b r hdr
      simp only [Bool.and_eq_true, decide_eq_true_eq] at ht
      obtain ⟨⟨⟨⟨h1, h2⟩, rfl⟩, h4⟩, rfl⟩ := ht
      obtain ⟨hkb, d', mc', ms', Q', e1, e2, e3, e4, e5, e6⟩ := hw
      have hdr' : st.drop (z_An j') = .ref b :: r := hdr
      have hlen : (st.take (z_An j')).reverse.length = z_An j' := by
        have : 0 < (st.drop (z_An j')).length := by rw [hdr']; simp
        rw [List.length_drop] at this
        rw [List.length_reverse, List.length_take]
        omega
      have := z_s_invV (as := (st.take (z_An j')).reverse) (b := b) (rest := r) hd h1 h2 hkb h4 hlen e5 e1 e2 e3 e4 (fun r h' q => kk _ _ _ _ _ (e6 r h' q))
      rw [List.reverse_reverse, ← hdr', List.take_append_drop] at this
      exact this
    · exact hw.elim
  case invokestatic i =>
    obtain ⟨rfl, ht⟩ := hk
    simp only [z_wp1] at hw
    split at hw
    · simp only [decide_eq_true_eq] at ht
      exact z_s_max hd ht hw.1 hw.2.1 (kk _ _ _ _ _ hw.2.2)
    · simp only [decide_eq_true_eq] at ht
      exact z_s_abs hd ht hw.1 hw.2.1 (kk _ _ _ _ _ hw.2.2)
    · rename_i j' na
      simp only [Bool.and_eq_true, decide_eq_true_eq] at ht
      obtain ⟨⟨h1, h2⟩, rfl⟩ := ht
      obtain ⟨hle, d', mc', ms', Q', e1, e2, e3, e4, e5, e6⟩ := hw
      have := z_s_invS (as := (st.take (z_An j')).reverse) hd h1 h2 (by rw [List.length_reverse, List.length_take]; omega) e5 e1 e2 e3 e4 (fun r h' q => kk _ _ _ _ _ (e6 r h' q))
      rw [List.reverse_reverse, List.take_append_drop] at this
      exact this
    · exact hw.elim
  case invokespecial i =>
    obtain ⟨rfl, ht⟩ := hk
    simp only [z_wp1] at hw
    split at hw
    · rename_i a r hdr
      have hdr' : st = .ref a :: r := hdr
      subst hdr'
      simp only [decide_eq_true_eq] at ht
      exact z_s_objInit hd ht hw.1 hw.2.1 (kk _ _ _ _ _ hw.2.2)
    · rename_i j' na b r hdr
      simp only [Bool.and_eq_true, decide_eq_true_eq] at ht
      obtain ⟨⟨⟨⟨h1, h2⟩, h3⟩, h4⟩, rfl⟩ := ht
      obtain ⟨d', mc', ms', Q', e1, e2, e3, e4, e5, e6⟩ := hw
      have hdr' : st.drop (z_An j') = .ref b :: r := hdr
      have hlen : (st.take (z_An j')).length = z_An j' := by
        have : 0 < (st.drop (z_An j')).length := by rw [hdr']; simp
        rw [List.length_drop] at this
        rw [List.length_take]
        omega
      have := z_s_invI (as := (st.take (z_An j')).reverse) (b := b) (rest := r) hd h1 ⟨h2, h3, h4⟩ (by rw [List.length_reverse]; exact hlen) e5 e1 e2 e3 e4 (fun r h' q => kk _ _ _ _ _ (e6 r h' q))
      rw [List.reverse_reverse, ← hdr', List.take_append_drop] at this
      exact this
    · exact hw.elim
  case ireturn =>
    obtain ⟨rfl, ht⟩ := hk
    simp only [z_wp1] at hw
    split at hw
    · simp only [decide_eq_true_eq] at ht
      exact z_s_ret (r := some (.int _)) hd ⟨_, _, ht, rfl, rfl⟩ hw
    · simp only [decide_eq_true_eq] at ht
      obtain ⟨hv, hw⟩ := hw
      exact z_s_ret (r := some (.int _)) hd ⟨_, _, ht, rfl, by rcases hv with rfl | rfl <;> rfl⟩ hw
    · exact hw.elim
  case lreturn =>
    obtain ⟨rfl, ht⟩ := hk
    simp only [z_wp1] at hw
    split at hw
    · exact z_s_ret (r := some (.long _)) hd ⟨_, ht, rfl⟩ hw
    · exact hw.elim
  case areturn =>
    obtain ⟨rfl, ht⟩ := hk
    simp only [z_wp1] at hw
    split at hw
    · split at ht
      · rename_i e1
        exact z_s_ret (r := some (.ref _)) hd ⟨_, _, e1, Or.inl ⟨_, rfl⟩, rfl⟩ hw
      · rename_i e1
        exact z_s_ret (r := some (.ref _)) hd ⟨_, _, e1, Or.inr ⟨_, rfl⟩, rfl⟩ hw
      · cases ht
    · exact hw.elim
  case return_ =>
    obtain ⟨rfl, ht⟩ := hk
    simp only [z_wp1] at hw
    split at hw
    · exact z_s_ret (r := none) hd ⟨ht, rfl⟩ hw
    · exact hw.elim
/-- a block: what it asks -/
def zW (X : zX) (e : Nat) : List zOp → zK
  | [], ls, st, h, uc, us => zV X e ls st h uc us
  | op :: r, ls, st, h, uc, us => z_wp1 X op.1 op.2.2.1 op.2.2.2.1 op.2.2.2.2 ls st h uc us (fun ls' st' h' uc' us' => zW X e r ls' st' h' uc' us')
def z_blk (j : Nat) : Nat → Nat → List zOp → Bool
  | t, e, [] => decide (t = e)
  | t, e, op :: r => decide (op.1 = t) && z_opok j op && z_blk j (t + op.2.1) e r
theorem zW_ok {X : zX} {j e : Nat} (hj : X.2.1 = j) : ∀ (ops : List zOp) (t : Nat) (ls : List (Option Value)) (st : List Value) (h : zH) (uc us : Nat), z_blk j t e ops = true → zW X e ops ls st h uc us → zV X t ls st h uc us
  | [], t, ls, st, h, uc, us, hb, hw => by
    simp only [z_blk, decide_eq_true_eq] at hb
    subst hb
    exact hw
  | op :: r, t, ls, st, h, uc, us, hb, hw => by
    simp only [z_blk, Bool.and_eq_true, decide_eq_true_eq] at hb
    obtain ⟨⟨rfl, ho⟩, hb⟩ := hb
    simp only [z_opok, Bool.and_eq_true] at ho
    exact z_wp1_ok hj ho.1 ho.2 hw (fun ls' st' h' uc' us' hk => zW_ok hj r _ ls' st' h' uc' us' hb hk)
theorem z_ctr {l : Launch} {d j mc ms : Nat} {as : List Value} {h : zH} {Q : Option Value → zH → Prop} (hj : j < 258) (hpl : plainName (z_y j).cls = true) (hfit : z_fits j as) (hname : z_Kd j = 2 → (z_y j).name = "<init>") (hV : ∀ X : zX, X.1 = l → X.2.1 = j → X.2.2.1 = d → X.2.2.2.1 = mc → X.2.2.2.2.1 = ms → X.2.2.2.2.2.1 = none → (∀ r h', Q r h' → X.2.2.2.2.2.2 r h') → zV X 0 (z_ent (z_L j) as) [] h 0 0) : z_Ctr l d j as h mc ms Q :=
  z_met hj hpl hfit hname (hV (l, j, d, mc, ms, none, Q) rfl rfl rfl rfl rfl rfl (fun _ _ q => q))
