/-! the words that every method may use: the tables' words that stay -/
def TW : List Cond := lw_tbl.filter goodWord
theorem z_TW_good : ∀ w ∈ TW, goodWord w = true := fun w hw => (List.mem_filter.mp hw).2
theorem z_TW_in : GoodIn TW TW := fun w hw => ⟨hw, good_of_word (z_TW_good w hw)⟩
theorem z_TW_at {i : Nat} {w : Cond} (h : lw_tbl[i]? = some w) (hg : goodWord w = true) : w ∈ TW := List.mem_filter.mpr ⟨List.mem_of_getElem? h, hg⟩
def z_atB (is : List Nat) (ws : List Cond) : Bool := (is.map (fun i => lw_tbl[i]?) == ws.map some) && ws.all goodWord
theorem z_at {is : List Nat} {ws : List Cond} (h : z_atB is ws = true) : ∀ w ∈ ws, w ∈ TW := fun w hw => by
  simp only [z_atB, Bool.and_eq_true, beq_iff_eq] at h
  obtain ⟨k, hk⟩ := List.getElem?_of_mem hw
  have h1 : (is.map (fun i => lw_tbl[i]?))[k]? = some (some w) := by rw [h.1, List.getElem?_map, hk]; rfl
  rw [List.getElem?_map] at h1
  cases hi : is[k]? with
  | none => rw [hi] at h1; cases h1
  | some i =>
    rw [hi] at h1
    exact z_TW_at (Option.some.inj h1) (List.all_eq_true.mp h.2 w hw)

set_option maxRecDepth 20000 in
theorem z_in0 : ∀ w ∈ u_ws RX0 TX0 16, w ∈ TW := z_at (is := [382, 384, 386, 388, 390, 392, 394, 396, 398, 400, 402, 404, 406, 408, 410, 412]) (by decide +kernel)

set_option maxRecDepth 20000 in
theorem z_in1 : ∀ w ∈ u_ws RX1 TX1 10, w ∈ TW := z_at (is := [297, 299, 301, 303, 305, 307, 309, 311, 313, 315]) (by decide +kernel)

set_option maxRecDepth 20000 in
theorem z_in2 : ∀ w ∈ u_ws RX2 TX2 11, w ∈ TW := z_at (is := [436, 438, 440, 442, 444, 446, 448, 450, 452, 454, 456]) (by decide +kernel)

set_option maxRecDepth 20000 in
theorem z_in3 : ∀ w ∈ u_ws RX3 TX3 13, w ∈ TW := z_at (is := [251, 253, 255, 257, 259, 261, 263, 265, 267, 269, 271, 273, 275]) (by decide +kernel)

set_option maxRecDepth 20000 in
theorem z_in4 : ∀ w ∈ u_ws RX4 TX4 4, w ∈ TW := z_at (is := [133, 135, 137, 139]) (by decide +kernel)

set_option maxRecDepth 20000 in
theorem z_in5 : ∀ w ∈ u_ws RX5 TX5 7, w ∈ TW := z_at (is := [163, 165, 167, 169, 171, 173, 175]) (by decide +kernel)

set_option maxRecDepth 20000 in
theorem z_in6 : ∀ w ∈ u_ws RX6 TX6 4, w ∈ TW := z_at (is := [508, 510, 512, 514]) (by decide +kernel)

set_option maxRecDepth 20000 in
theorem z_in7 : ∀ w ∈ u_ws RX7 TX7 11, w ∈ TW := z_at (is := [335, 337, 339, 341, 343, 345, 347, 349, 351, 353, 355]) (by decide +kernel)

set_option maxRecDepth 20000 in
theorem z_in8 : ∀ w ∈ u_ws RX8 TX8 11, w ∈ TW := z_at (is := [204, 206, 208, 210, 212, 214, 216, 218, 220, 222, 224]) (by decide +kernel)

set_option maxRecDepth 20000 in
theorem z_in9 : ∀ w ∈ u_ws RX9 TX9 8, w ∈ TW := z_at (is := [482, 484, 486, 488, 490, 492, 494, 496]) (by decide +kernel)

set_option maxRecDepth 20000 in
theorem z_in10 : ∀ w ∈ u_ws RX10 TX10 12, w ∈ TW := z_at (is := [529, 531, 533, 535, 537, 539, 541, 543, 545, 547, 549, 551]) (by decide +kernel)

set_option maxRecDepth 20000 in
theorem z_in11 : ∀ w ∈ u_ws RX11 TX11 59, w ∈ TW := z_at (is := [1290, 1292, 1294, 1296, 1298, 1300, 1302, 1304, 1306, 1308, 1310, 1312, 1314, 1316, 1318, 1320, 1322, 1324, 1326, 1328, 1330, 1332, 1334, 1336, 1338, 1340, 1342, 1344, 1346, 1348, 1350, 1352, 1354, 1356, 1358, 1360, 1362, 1364, 1366, 1368, 1370, 1372, 1374, 1376, 1378, 1380, 1382, 1384, 1386, 1388, 1390, 1392, 1394, 1396, 1398, 1400, 1402, 1404, 1406]) (by decide +kernel)

def z_classes : List vw_C := [(RX0, TX0, 16), (RX1, TX1, 10), (RX2, TX2, 11), (RX3, TX3, 13), (RX4, TX4, 4), (RX5, TX5, 7), (RX6, TX6, 4), (RX7, TX7, 11), (RX8, TX8, 11), (RX9, TX9, 8), (RX10, TX10, 12), (RX11, TX11, 59)]

def z_ty (c k : Nat) : FieldType := match c with
  | 0 => tyX0 k
  | 1 => tyX1 k
  | 2 => tyX2 k
  | 3 => tyX3 k
  | 4 => tyX4 k
  | 5 => tyX5 k
  | 6 => tyX6 k
  | 7 => tyX7 k
  | 8 => tyX8 k
  | 9 => tyX9 k
  | 10 => tyX10 k
  | _ => tyX11 k

def z_num (c : Nat) : Nat := match c with
  | 0 => 16
  | 1 => 10
  | 2 => 11
  | 3 => 13
  | 4 => 4
  | 5 => 7
  | 6 => 4
  | 7 => 11
  | 8 => 11
  | 9 => 8
  | 10 => 12
  | _ => 59

theorem z_cin : ∀ (c : Nat) (q : vw_C), z_classes[c]? = some q → ∀ w ∈ u_ws q.1 q.2.1 q.2.2, w ∈ TW
  | 0, _, h => by cases h; exact z_in0
  | 1, _, h => by cases h; exact z_in1
  | 2, _, h => by cases h; exact z_in2
  | 3, _, h => by cases h; exact z_in3
  | 4, _, h => by cases h; exact z_in4
  | 5, _, h => by cases h; exact z_in5
  | 6, _, h => by cases h; exact z_in6
  | 7, _, h => by cases h; exact z_in7
  | 8, _, h => by cases h; exact z_in8
  | 9, _, h => by cases h; exact z_in9
  | 10, _, h => by cases h; exact z_in10
  | 11, _, h => by cases h; exact z_in11
  | k + 12, _, h => by simp [z_classes] at h

theorem z_cty : ∀ (c : Nat) (q : vw_C), z_classes[c]? = some q → ∀ k, k < q.2.2 → parseFieldDescriptor (q.2.1 k).2.2.1 = some (z_ty c k)
  | 0, _, h => by cases h; exact tyX0_ok
  | 1, _, h => by cases h; exact tyX1_ok
  | 2, _, h => by cases h; exact tyX2_ok
  | 3, _, h => by cases h; exact tyX3_ok
  | 4, _, h => by cases h; exact tyX4_ok
  | 5, _, h => by cases h; exact tyX5_ok
  | 6, _, h => by cases h; exact tyX6_ok
  | 7, _, h => by cases h; exact tyX7_ok
  | 8, _, h => by cases h; exact tyX8_ok
  | 9, _, h => by cases h; exact tyX9_ok
  | 10, _, h => by cases h; exact tyX10_ok
  | 11, _, h => by cases h; exact tyX11_ok
  | k + 12, _, h => by simp [z_classes] at h

theorem z_cnm : ∀ (c : Nat) (q : vw_C), z_classes[c]? = some q → ∀ a, a < q.2.2 → ∀ b, b < q.2.2 → a ≠ b → (q.2.1 a).2.1 ≠ (q.2.1 b).2.1
  | 0, _, h => by cases h; exact nmX0
  | 1, _, h => by cases h; exact nmX1
  | 2, _, h => by cases h; exact nmX2
  | 3, _, h => by cases h; exact nmX3
  | 4, _, h => by cases h; exact nmX4
  | 5, _, h => by cases h; exact nmX5
  | 6, _, h => by cases h; exact nmX6
  | 7, _, h => by cases h; exact nmX7
  | 8, _, h => by cases h; exact nmX8
  | 9, _, h => by cases h; exact nmX9
  | 10, _, h => by cases h; exact nmX10
  | 11, _, h => by cases h; exact nmX11
  | k + 12, _, h => by simp [z_classes] at h

theorem z_cnum : ∀ (c : Nat) (q : vw_C), z_classes[c]? = some q → q.2.2 = z_num c
  | 0, _, h => by cases h; exact rfl
  | 1, _, h => by cases h; exact rfl
  | 2, _, h => by cases h; exact rfl
  | 3, _, h => by cases h; exact rfl
  | 4, _, h => by cases h; exact rfl
  | 5, _, h => by cases h; exact rfl
  | 6, _, h => by cases h; exact rfl
  | 7, _, h => by cases h; exact rfl
  | 8, _, h => by cases h; exact rfl
  | 9, _, h => by cases h; exact rfl
  | 10, _, h => by cases h; exact rfl
  | 11, _, h => by cases h; exact rfl
  | k + 12, _, h => by simp [z_classes] at h
