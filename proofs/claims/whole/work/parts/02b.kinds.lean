/-! classes: names and fields (out of the printed names) -/
def RX0 : String := "BlockFleet$Copy"
def TX0 : u_T := fun k => match k with
  | 0 => ("BlockFleet$Copy", "piece", "LBlockFleet$Piece;", false)
  | 1 => ("BlockFleet$Copy", "version", "I", false)
  | 2 => ("BlockFleet$Copy", "length", "I", false)
  | 3 => ("BlockFleet$Copy", "wrong", "I", false)
  | _ => ("BlockFleet$Copy", "numbers", "[I", true)
def tyX0 : Nat → FieldType := fun k => match k with
  | 0 => .object "BlockFleet$Piece"
  | 1 => .int
  | 2 => .int
  | 3 => .int
  | _ => .array .int
theorem nmX0 : ∀ a, a < 5 → ∀ b, b < 5 → a ≠ b → (TX0 a).2.1 ≠ (TX0 b).2.1 := by decide +kernel
theorem tyX0_ok : ∀ k, k < 5 → parseFieldDescriptor (TX0 k).2.2.1 = some (tyX0 k) := by decide +kernel
def RX1 : String := "BlockFleet$File"
def TX1 : u_T := fun k => match k with
  | 0 => ("BlockFleet$File", "number", "I", true)
  | 1 => ("BlockFleet$File", "standing", "I", false)
  | 2 => ("BlockFleet$File", "deletedAt", "I", false)
  | _ => ("BlockFleet$File", "row", "Ljava/util/ArrayList;", true)
def tyX1 : Nat → FieldType := fun k => match k with
  | 0 => .int
  | 1 => .int
  | 2 => .int
  | _ => .object "java/util/ArrayList"
theorem nmX1 : ∀ a, a < 4 → ∀ b, b < 4 → a ≠ b → (TX1 a).2.1 ≠ (TX1 b).2.1 := by decide +kernel
theorem tyX1_ok : ∀ k, k < 4 → parseFieldDescriptor (TX1 k).2.2.1 = some (tyX1 k) := by decide +kernel
def RX2 : String := "BlockFleet$Node"
def TX2 : u_T := fun k => match k with
  | 0 => ("BlockFleet$Node", "number", "I", true)
  | 1 => ("BlockFleet$Node", "rack", "I", true)
  | 2 => ("BlockFleet$Node", "places", "[LBlockFleet$Copy;", true)
  | 3 => ("BlockFleet$Node", "taken", "I", false)
  | 4 => ("BlockFleet$Node", "isUp", "Z", false)
  | 5 => ("BlockFleet$Node", "isCountedOn", "Z", false)
  | 6 => ("BlockFleet$Node", "downSince", "I", false)
  | _ => ("BlockFleet$Node", "lookedAt", "I", false)
def tyX2 : Nat → FieldType := fun k => match k with
  | 0 => .int
  | 1 => .int
  | 2 => .array (.object "BlockFleet$Copy")
  | 3 => .int
  | 4 => .boolean
  | 5 => .boolean
  | 6 => .int
  | _ => .int
theorem nmX2 : ∀ a, a < 8 → ∀ b, b < 8 → a ≠ b → (TX2 a).2.1 ≠ (TX2 b).2.1 := by decide +kernel
theorem tyX2_ok : ∀ k, k < 8 → parseFieldDescriptor (TX2 k).2.2.1 = some (tyX2 k) := by decide +kernel
def RX3 : String := "BlockFleet$Piece"
def TX3 : u_T := fun k => match k with
  | 0 => ("BlockFleet$Piece", "number", "I", true)
  | 1 => ("BlockFleet$Piece", "version", "I", false)
  | 2 => ("BlockFleet$Piece", "inFiles", "I", false)
  | 3 => ("BlockFleet$Piece", "primary", "LBlockFleet$Node;", false)
  | 4 => ("BlockFleet$Piece", "leaseEnd", "I", false)
  | 5 => ("BlockFleet$Piece", "mendedAt", "I", false)
  | _ => ("BlockFleet$Piece", "holders", "Ljava/util/ArrayList;", true)
def tyX3 : Nat → FieldType := fun k => match k with
  | 0 => .int
  | 1 => .int
  | 2 => .int
  | 3 => .object "BlockFleet$Node"
  | 4 => .int
  | 5 => .int
  | _ => .object "java/util/ArrayList"
theorem nmX3 : ∀ a, a < 7 → ∀ b, b < 7 → a ≠ b → (TX3 a).2.1 ≠ (TX3 b).2.1 := by decide +kernel
theorem tyX3_ok : ∀ k, k < 7 → parseFieldDescriptor (TX3 k).2.2.1 = some (tyX3 k) := by decide +kernel
def RX4 : String := "BlockFleet"
def TX4 : u_T := fun k => match k with
  | 0 => ("BlockFleet", "nodes", "Ljava/util/ArrayList;", true)
  | 1 => ("BlockFleet", "allPieces", "Ljava/util/ArrayList;", true)
  | 2 => ("BlockFleet", "files", "Ljava/util/ArrayList;", true)
  | 3 => ("BlockFleet", "second", "I", false)
  | 4 => ("BlockFleet", "mendLimit", "I", false)
  | _ => ("BlockFleet", "isBalancing", "Z", false)
def tyX4 : Nat → FieldType := fun k => match k with
  | 0 => .object "java/util/ArrayList"
  | 1 => .object "java/util/ArrayList"
  | 2 => .object "java/util/ArrayList"
  | 3 => .int
  | 4 => .int
  | _ => .boolean
theorem nmX4 : ∀ a, a < 6 → ∀ b, b < 6 → a ≠ b → (TX4 a).2.1 ≠ (TX4 b).2.1 := by decide +kernel
theorem tyX4_ok : ∀ k, k < 6 → parseFieldDescriptor (TX4 k).2.2.1 = some (tyX4 k) := by decide +kernel
def RX5 : String := "BlockFleetModel"
def TX5 : u_T := fun k => match k with
  | 0 => ("BlockFleetModel", "thrown", "I", false)
  | 1 => ("BlockFleetModel", "second", "I", false)
  | 2 => ("BlockFleetModel", "limit", "I", false)
  | 3 => ("BlockFleetModel", "isBalanced", "Z", false)
  | 4 => ("BlockFleetModel", "nodes", "I", false)
  | 5 => ("BlockFleetModel", "rack", "[I", true)
  | 6 => ("BlockFleetModel", "room", "[I", true)
  | 7 => ("BlockFleetModel", "isUp", "[Z", true)
  | 8 => ("BlockFleetModel", "since", "[I", true)
  | 9 => ("BlockFleetModel", "isCounted", "[Z", true)
  | 10 => ("BlockFleetModel", "looked", "[I", true)
  | 11 => ("BlockFleetModel", "pieces", "I", false)
  | 12 => ("BlockFleetModel", "version", "[I", true)
  | 13 => ("BlockFleetModel", "primary", "[I", true)
  | 14 => ("BlockFleetModel", "leaseEnd", "[I", true)
  | 15 => ("BlockFleetModel", "isMended", "[Z", true)
  | 16 => ("BlockFleetModel", "copies", "[I", true)
  | 17 => ("BlockFleetModel", "copy", "[I", true)
  | 18 => ("BlockFleetModel", "has", "[I", true)
  | 19 => ("BlockFleetModel", "cells", "[I", true)
  | 20 => ("BlockFleetModel", "number", "[I", true)
  | 21 => ("BlockFleetModel", "wrong", "[I", true)
  | 22 => ("BlockFleetModel", "files", "I", false)
  | 23 => ("BlockFleetModel", "state", "[I", true)
  | 24 => ("BlockFleetModel", "deleted", "[I", true)
  | 25 => ("BlockFleetModel", "rows", "[I", true)
  | _ => ("BlockFleetModel", "row", "[I", true)
def tyX5 : Nat → FieldType := fun k => match k with
  | 0 => .int
  | 1 => .int
  | 2 => .int
  | 3 => .boolean
  | 4 => .int
  | 5 => .array .int
  | 6 => .array .int
  | 7 => .array .boolean
  | 8 => .array .int
  | 9 => .array .boolean
  | 10 => .array .int
  | 11 => .int
  | 12 => .array .int
  | 13 => .array .int
  | 14 => .array .int
  | 15 => .array .boolean
  | 16 => .array .int
  | 17 => .array .int
  | 18 => .array .int
  | 19 => .array .int
  | 20 => .array .int
  | 21 => .array .int
  | 22 => .int
  | 23 => .array .int
  | 24 => .array .int
  | 25 => .array .int
  | _ => .array .int
theorem nmX5 : ∀ a, a < 27 → ∀ b, b < 27 → a ≠ b → (TX5 a).2.1 ≠ (TX5 b).2.1 := by decide +kernel
theorem tyX5_ok : ∀ k, k < 27 → parseFieldDescriptor (TX5 k).2.2.1 = some (tyX5 k) := by decide +kernel
def RJx4a65c : String := "java/util/ArrayList"
def TJx4a65c : u_T := fun k => match k with
  | 0 => ("java/util/AbstractList", "modCount", "I", false)
  | 1 => ("java/util/ArrayList", "elementData", "[Ljava/lang/Object;", false)
  | _ => ("java/util/ArrayList", "size", "I", false)
def tyJx4a65c : Nat → FieldType := fun k => match k with
  | 0 => .int
  | 1 => .array (.object "java/lang/Object")
  | _ => .int
theorem nmJx4a65c : ∀ a, a < 3 → ∀ b, b < 3 → a ≠ b → (TJx4a65c a).2.1 ≠ (TJx4a65c b).2.1 := by decide +kernel
theorem tyJx4a65c_ok : ∀ k, k < 3 → parseFieldDescriptor (TJx4a65c k).2.2.1 = some (tyJx4a65c k) := by decide +kernel
def RJ0 : String := "java/lang/String"
def RJ10 : String := "java/lang/System"
def RJ15 : String := "java/util/Objects"
def RJ3 : String := "jdk/internal/util/Preconditions"
def RJ7 : String := "java/util/Arrays"
def RJ8 : String := "jdk/internal/util/ArraysSupport"
def RJ9 : String := "java/lang/Math"
def RJx145de : String := "java/io/Serializable"
def RJx5ef63 : String := "java/util/Collection"
def RJx8e188 : String := "java/lang/Cloneable"
def RJxa1e45 : String := "java/util/AbstractCollection"
def RJxa66e6 : String := "java/util/SequencedCollection"
def RJxab1ab : String := "java/lang/Iterable"
def RJxbd725 : String := "java/util/List"
def RJxc12de : String := "java/util/AbstractList"
def RJxf0a74 : String := "java/util/RandomAccess"
def RL : String := "BlockFleetLaw"
/-- a word that stays true while the tables are warmed -/
def okW (w : Cond) : Bool := goodWord w || (w.onTables && w.keepsFace)
def tb : List Cond := lw_tbl.filter okW
theorem tb_of {w : Cond} (h : w ∈ lw_tbl) (hk : okW w = true) : w ∈ tb := List.mem_filter.mpr ⟨h, hk⟩
theorem tbm0 (j : Nat) {w : Cond} (h : (k2_sels lw_privs)[j]? = some w) (hk : okW w = true) : w ∈ tb := tb_of (List.mem_append_left _ (List.mem_of_getElem? h)) hk
theorem tbl1 (j : Nat) {w : Cond} (h : tables_1_1[j]? = some w) : w ∈ lw_tbl := List.mem_append_right _ (List.mem_append_left _ (List.mem_of_getElem? h))
theorem tbm1 (j : Nat) {w : Cond} (h : tables_1_1[j]? = some w) (hk : okW w = true) : w ∈ tb := tb_of (tbl1 j h) hk
theorem tbl2 (j : Nat) {w : Cond} (h : tables_1_2[j]? = some w) : w ∈ lw_tbl := List.mem_append_right _ (List.mem_append_right _ (List.mem_append_left _ (List.mem_of_getElem? h)))
theorem tbm2 (j : Nat) {w : Cond} (h : tables_1_2[j]? = some w) (hk : okW w = true) : w ∈ tb := tb_of (tbl2 j h) hk
theorem tbl3 (j : Nat) {w : Cond} (h : tables_1_3[j]? = some w) : w ∈ lw_tbl := List.mem_append_right _ (List.mem_append_right _ (List.mem_append_right _ (List.mem_append_left _ (List.mem_of_getElem? h))))
theorem tbm3 (j : Nat) {w : Cond} (h : tables_1_3[j]? = some w) (hk : okW w = true) : w ∈ tb := tb_of (tbl3 j h) hk
theorem tbl4 (j : Nat) {w : Cond} (h : tables_1_4[j]? = some w) : w ∈ lw_tbl := List.mem_append_right _ (List.mem_append_right _ (List.mem_append_right _ (List.mem_append_right _ (List.mem_append_left _ (List.mem_of_getElem? h)))))
theorem tbm4 (j : Nat) {w : Cond} (h : tables_1_4[j]? = some w) (hk : okW w = true) : w ∈ tb := tb_of (tbl4 j h) hk
theorem tbl5 (j : Nat) {w : Cond} (h : tables_1_5[j]? = some w) : w ∈ lw_tbl := List.mem_append_right _ (List.mem_append_right _ (List.mem_append_right _ (List.mem_append_right _ (List.mem_append_right _ (List.mem_append_left _ (List.mem_of_getElem? h))))))
theorem tbm5 (j : Nat) {w : Cond} (h : tables_1_5[j]? = some w) (hk : okW w = true) : w ∈ tb := tb_of (tbl5 j h) hk
theorem tbl6 (j : Nat) {w : Cond} (h : tables_1_6[j]? = some w) : w ∈ lw_tbl := List.mem_append_right _ (List.mem_append_right _ (List.mem_append_right _ (List.mem_append_right _ (List.mem_append_right _ (List.mem_append_right _ (List.mem_of_getElem? h))))))
theorem tbm6 (j : Nat) {w : Cond} (h : tables_1_6[j]? = some w) (hk : okW w = true) : w ∈ tb := tb_of (tbl6 j h) hk
theorem tb_l {ws : List Cond} (ps : List Nat) (hp : ws = ps.filterMap (fun i => lw_tbl[i]?)) (h : ws.all okW = true) : ∀ w ∈ ws, w ∈ tb := fun w hw => tb_of (by rw [hp] at hw; obtain ⟨i, -, hi⟩ := List.mem_filterMap.mp hw; exact List.mem_of_getElem? hi) (List.all_eq_true.mp h w hw)
theorem inJx4a65c : ∀ w ∈ u_ws RJx4a65c TJx4a65c 3, w ∈ tb := tb_l [122, 118, 120] (by decide +kernel) (by decide +kernel)
theorem inX0 : ∀ w ∈ u_ws RX0 TX0 5, w ∈ tb := tb_l [291, 293, 295, 297, 299] (by decide +kernel) (by decide +kernel)
theorem inX1 : ∀ w ∈ u_ws RX1 TX1 4, w ∈ tb := tb_l [644, 646, 648, 650] (by decide +kernel) (by decide +kernel)
theorem inX2 : ∀ w ∈ u_ws RX2 TX2 8, w ∈ tb := tb_l [320, 322, 324, 326, 328, 330, 332, 334] (by decide +kernel) (by decide +kernel)
theorem inX3 : ∀ w ∈ u_ws RX3 TX3 7, w ∈ tb := tb_l [749, 751, 753, 755, 757, 759, 761] (by decide +kernel) (by decide +kernel)
theorem inX4 : ∀ w ∈ u_ws RX4 TX4 6, w ∈ tb := tb_l [131, 133, 135, 137, 139, 141] (by decide +kernel) (by decide +kernel)
theorem inX5 : ∀ w ∈ u_ws RX5 TX5 27, w ∈ tb := tb_l [926, 928, 930, 932, 934, 936, 938, 940, 942, 944, 946, 948, 950, 952, 954, 956, 958, 960, 962, 964, 966, 968, 970, 972, 974, 976, 978] (by decide +kernel) (by decide +kernel)
