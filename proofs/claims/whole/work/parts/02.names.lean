/-! ===== THE PROGRAM AS DATA (by gen02.py out of the Statement's words; RX, TX, tyX as the printed names have them) ===== -/
def RX0 : String := "TreeToTree$Broad"
def TX0 : u_T := fun k => match k with
  | 0 => ("TreeToTree$Tree", "spot", "LTreeToTree$Spot;", true)
  | 1 => ("TreeToTree$Tree", "holds", "I", false)
  | _ => ("TreeToTree$Tree", "keptHolds", "I", false)
def tyX0 : Nat → FieldType := fun k => match k with
  | 0 => .object "TreeToTree$Spot"
  | 1 => .int
  | _ => .int
theorem nmX0 : ∀ a, a < 3 → ∀ b, b < 3 → a ≠ b → (TX0 a).2.1 ≠ (TX0 b).2.1 := by decide +kernel
theorem tyX0_ok : ∀ k, k < 3 → parseFieldDescriptor (TX0 k).2.2.1 = some (tyX0 k) := by decide +kernel
def RX1 : String := "TreeToTree$Hollow"
def TX1 : u_T := fun k => match k with
  | 0 => ("TreeToTree$Tree", "spot", "LTreeToTree$Spot;", true)
  | 1 => ("TreeToTree$Tree", "holds", "I", false)
  | _ => ("TreeToTree$Tree", "keptHolds", "I", false)
def tyX1 : Nat → FieldType := fun k => match k with
  | 0 => .object "TreeToTree$Spot"
  | 1 => .int
  | _ => .int
theorem nmX1 : ∀ a, a < 3 → ∀ b, b < 3 → a ≠ b → (TX1 a).2.1 ≠ (TX1 b).2.1 := by decide +kernel
theorem tyX1_ok : ∀ k, k < 3 → parseFieldDescriptor (TX1 k).2.2.1 = some (tyX1 k) := by decide +kernel
def RX2 : String := "TreeToTree$Late"
def TX2 : u_T := fun k => match k with
  | 0 => ("TreeToTree$Tree", "spot", "LTreeToTree$Spot;", true)
  | 1 => ("TreeToTree$Tree", "holds", "I", false)
  | _ => ("TreeToTree$Tree", "keptHolds", "I", false)
def tyX2 : Nat → FieldType := fun k => match k with
  | 0 => .object "TreeToTree$Spot"
  | 1 => .int
  | _ => .int
theorem nmX2 : ∀ a, a < 3 → ∀ b, b < 3 → a ≠ b → (TX2 a).2.1 ≠ (TX2 b).2.1 := by decide +kernel
theorem tyX2_ok : ∀ k, k < 3 → parseFieldDescriptor (TX2 k).2.2.1 = some (tyX2 k) := by decide +kernel
def RX3 : String := "TreeToTree$Park"
def TX3 : u_T := fun k => match k with
  | 0 => ("TreeToTree$Park", "soak", "I", false)
  | 1 => ("TreeToTree$Park", "waitCost", "I", false)
  | 2 => ("TreeToTree$Park", "codes", "[I", true)
  | 3 => ("TreeToTree$Park", "used", "I", false)
  | 4 => ("TreeToTree$Park", "fields", "[I", true)
  | 5 => ("TreeToTree$Park", "text", "[I", true)
  | 6 => ("TreeToTree$Park", "size", "I", false)
  | 7 => ("TreeToTree$Park", "at", "I", false)
  | 8 => ("TreeToTree$Park", "sign", "I", false)
  | _ => ("TreeToTree$Park", "value", "I", false)
def tyX3 : Nat → FieldType := fun k => match k with
  | 0 => .int
  | 1 => .int
  | 2 => .array .int
  | 3 => .int
  | 4 => .array .int
  | 5 => .array .int
  | 6 => .int
  | 7 => .int
  | 8 => .int
  | _ => .int
theorem nmX3 : ∀ a, a < 10 → ∀ b, b < 10 → a ≠ b → (TX3 a).2.1 ≠ (TX3 b).2.1 := by decide +kernel
theorem tyX3_ok : ∀ k, k < 10 → parseFieldDescriptor (TX3 k).2.2.1 = some (tyX3 k) := by decide +kernel
def RX4 : String := "TreeToTree$Rows"
def TX4 : u_T := fun k => match k with
  | 0 => ("TreeToTree$Rows", "limit", "I", true)
  | 1 => ("TreeToTree$Rows", "width", "I", true)
  | 2 => ("TreeToTree$Rows", "cells", "[I", true)
  | 3 => ("TreeToTree$Rows", "keptCells", "[I", true)
  | 4 => ("TreeToTree$Rows", "size", "I", false)
  | _ => ("TreeToTree$Rows", "keptSize", "I", false)
def tyX4 : Nat → FieldType := fun k => match k with
  | 0 => .int
  | 1 => .int
  | 2 => .array .int
  | 3 => .array .int
  | 4 => .int
  | _ => .int
theorem nmX4 : ∀ a, a < 6 → ∀ b, b < 6 → a ≠ b → (TX4 a).2.1 ≠ (TX4 b).2.1 := by decide +kernel
theorem tyX4_ok : ∀ k, k < 6 → parseFieldDescriptor (TX4 k).2.2.1 = some (tyX4 k) := by decide +kernel
def RX5 : String := "TreeToTree$Spot"
def TX5 : u_T := fun k => match k with
  | 0 => ("TreeToTree$Spot", "sums", "[I", true)
  | 1 => ("TreeToTree$Spot", "known", "I", false)
  | 2 => ("TreeToTree$Spot", "park", "LTreeToTree$Park;", false)
  | 3 => ("TreeToTree$Spot", "number", "I", false)
  | 4 => ("TreeToTree$Spot", "kind", "I", false)
  | 5 => ("TreeToTree$Spot", "v", "I", false)
  | _ => ("TreeToTree$Spot", "place", "I", false)
def tyX5 : Nat → FieldType := fun k => match k with
  | 0 => .array .int
  | 1 => .int
  | 2 => .object "TreeToTree$Park"
  | 3 => .int
  | 4 => .int
  | 5 => .int
  | _ => .int
theorem nmX5 : ∀ a, a < 7 → ∀ b, b < 7 → a ≠ b → (TX5 a).2.1 ≠ (TX5 b).2.1 := by decide +kernel
theorem tyX5_ok : ∀ k, k < 7 → parseFieldDescriptor (TX5 k).2.2.1 = some (tyX5 k) := by decide +kernel
def RX6 : String := "TreeToTree$Thick"
def TX6 : u_T := fun k => match k with
  | 0 => ("TreeToTree$Tree", "spot", "LTreeToTree$Spot;", true)
  | 1 => ("TreeToTree$Tree", "holds", "I", false)
  | _ => ("TreeToTree$Tree", "keptHolds", "I", false)
def tyX6 : Nat → FieldType := fun k => match k with
  | 0 => .object "TreeToTree$Spot"
  | 1 => .int
  | _ => .int
theorem nmX6 : ∀ a, a < 3 → ∀ b, b < 3 → a ≠ b → (TX6 a).2.1 ≠ (TX6 b).2.1 := by decide +kernel
theorem tyX6_ok : ∀ k, k < 3 → parseFieldDescriptor (TX6 k).2.2.1 = some (tyX6 k) := by decide +kernel
def RX7 : String := "TreeToTree$Thin"
def TX7 : u_T := fun k => match k with
  | 0 => ("TreeToTree$Tree", "spot", "LTreeToTree$Spot;", true)
  | 1 => ("TreeToTree$Tree", "holds", "I", false)
  | _ => ("TreeToTree$Tree", "keptHolds", "I", false)
def tyX7 : Nat → FieldType := fun k => match k with
  | 0 => .object "TreeToTree$Spot"
  | 1 => .int
  | _ => .int
theorem nmX7 : ∀ a, a < 3 → ∀ b, b < 3 → a ≠ b → (TX7 a).2.1 ≠ (TX7 b).2.1 := by decide +kernel
theorem tyX7_ok : ∀ k, k < 3 → parseFieldDescriptor (TX7 k).2.2.1 = some (tyX7 k) := by decide +kernel
def RX8 : String := "TreeToTree$Told"
def TX8 : u_T := fun k => match k with
  | 0 => ("TreeToTree$Tree", "spot", "LTreeToTree$Spot;", true)
  | 1 => ("TreeToTree$Tree", "holds", "I", false)
  | 2 => ("TreeToTree$Tree", "keptHolds", "I", false)
  | 3 => ("TreeToTree$Told", "more", "[I", true)
  | _ => ("TreeToTree$Told", "keptMore", "[I", true)
def tyX8 : Nat → FieldType := fun k => match k with
  | 0 => .object "TreeToTree$Spot"
  | 1 => .int
  | 2 => .int
  | 3 => .array .int
  | _ => .array .int
theorem nmX8 : ∀ a, a < 5 → ∀ b, b < 5 → a ≠ b → (TX8 a).2.1 ≠ (TX8 b).2.1 := by decide +kernel
theorem tyX8_ok : ∀ k, k < 5 → parseFieldDescriptor (TX8 k).2.2.1 = some (tyX8 k) := by decide +kernel
def RX9 : String := "TreeToTree$Tree"
def TX9 : u_T := fun k => match k with
  | 0 => ("TreeToTree$Tree", "spot", "LTreeToTree$Spot;", true)
  | 1 => ("TreeToTree$Tree", "holds", "I", false)
  | _ => ("TreeToTree$Tree", "keptHolds", "I", false)
def tyX9 : Nat → FieldType := fun k => match k with
  | 0 => .object "TreeToTree$Spot"
  | 1 => .int
  | _ => .int
theorem nmX9 : ∀ a, a < 3 → ∀ b, b < 3 → a ≠ b → (TX9 a).2.1 ≠ (TX9 b).2.1 := by decide +kernel
theorem tyX9_ok : ∀ k, k < 3 → parseFieldDescriptor (TX9 k).2.2.1 = some (tyX9 k) := by decide +kernel
def RX10 : String := "TreeToTree$Trip"
def TX10 : u_T := fun k => match k with
  | 0 => ("TreeToTree$Trip", "grass", "LTreeToTree$Spot;", true)
  | 1 => ("TreeToTree$Trip", "pace", "I", false)
  | 2 => ("TreeToTree$Trip", "place", "I", false)
  | 3 => ("TreeToTree$Trip", "minute", "I", false)
  | _ => ("TreeToTree$Trip", "got", "I", false)
def tyX10 : Nat → FieldType := fun k => match k with
  | 0 => .object "TreeToTree$Spot"
  | 1 => .int
  | 2 => .int
  | 3 => .int
  | _ => .int
theorem nmX10 : ∀ a, a < 5 → ∀ b, b < 5 → a ≠ b → (TX10 a).2.1 ≠ (TX10 b).2.1 := by decide +kernel
theorem tyX10_ok : ∀ k, k < 5 → parseFieldDescriptor (TX10 k).2.2.1 = some (tyX10 k) := by decide +kernel
def RX11 : String := "TreeToTree"
def TX11 : u_T := fun k => match k with
  | 0 => ("TreeToTree", "numbers", "LTreeToTree$Rows;", true)
  | 1 => ("TreeToTree", "tape", "LTreeToTree$Rows;", true)
  | 2 => ("TreeToTree", "walkers", "LTreeToTree$Rows;", true)
  | 3 => ("TreeToTree", "legs", "LTreeToTree$Rows;", true)
  | 4 => ("TreeToTree", "rules", "LTreeToTree$Rows;", true)
  | 5 => ("TreeToTree", "entries", "LTreeToTree$Rows;", true)
  | 6 => ("TreeToTree", "bodies", "LTreeToTree$Rows;", true)
  | 7 => ("TreeToTree", "trees", "[LTreeToTree$Tree;", true)
  | 8 => ("TreeToTree", "spots", "[LTreeToTree$Spot;", true)
  | 9 => ("TreeToTree", "grass", "LTreeToTree$Spot;", true)
  | 10 => ("TreeToTree", "parks", "[LTreeToTree$Park;", true)
  | 11 => ("TreeToTree", "held", "LTreeToTree$Park;", false)
  | 12 => ("TreeToTree", "imaged", "Z", false)
  | 13 => ("TreeToTree", "walked", "LTreeToTree$Trip;", true)
  | 14 => ("TreeToTree", "onward", "LTreeToTree$Trip;", true)
  | 15 => ("TreeToTree", "homeward", "LTreeToTree$Trip;", true)
  | _ => ("TreeToTree", "best", "[I", true)
def tyX11 : Nat → FieldType := fun k => match k with
  | 0 => .object "TreeToTree$Rows"
  | 1 => .object "TreeToTree$Rows"
  | 2 => .object "TreeToTree$Rows"
  | 3 => .object "TreeToTree$Rows"
  | 4 => .object "TreeToTree$Rows"
  | 5 => .object "TreeToTree$Rows"
  | 6 => .object "TreeToTree$Rows"
  | 7 => .array (.object "TreeToTree$Tree")
  | 8 => .array (.object "TreeToTree$Spot")
  | 9 => .object "TreeToTree$Spot"
  | 10 => .array (.object "TreeToTree$Park")
  | 11 => .object "TreeToTree$Park"
  | 12 => .boolean
  | 13 => .object "TreeToTree$Trip"
  | 14 => .object "TreeToTree$Trip"
  | 15 => .object "TreeToTree$Trip"
  | _ => .array .int
theorem nmX11 : ∀ a, a < 17 → ∀ b, b < 17 → a ≠ b → (TX11 a).2.1 ≠ (TX11 b).2.1 := by decide +kernel
theorem tyX11_ok : ∀ k, k < 17 → parseFieldDescriptor (TX11 k).2.2.1 = some (tyX11 k) := by decide +kernel
def RX12 : String := "TreeToTreeModel"
def TX12 : u_T := fun k => match k with
  | 0 => ("TreeToTreeModel", "thrown", "I", false)
  | 1 => ("TreeToTreeModel", "s", "[I", true)
  | 2 => ("TreeToTreeModel", "image", "[I", true)
  | 3 => ("TreeToTreeModel", "hasImage", "Z", false)
  | 4 => ("TreeToTreeModel", "act", "I", false)
  | 5 => ("TreeToTreeModel", "spot", "I", false)
  | 6 => ("TreeToTreeModel", "end", "I", false)
  | 7 => ("TreeToTreeModel", "isWrong", "Z", false)
  | 8 => ("TreeToTreeModel", "open", "I", false)
  | 9 => ("TreeToTreeModel", "by", "[I", true)
  | 10 => ("TreeToTreeModel", "truths", "[Z", true)
  | 11 => ("TreeToTreeModel", "fallen", "[I", true)
  | 12 => ("TreeToTreeModel", "knownMany", "[I", true)
  | 13 => ("TreeToTreeModel", "where", "I", false)
  | 14 => ("TreeToTreeModel", "when", "I", false)
  | 15 => ("TreeToTreeModel", "got", "I", false)
  | 16 => ("TreeToTreeModel", "best", "[I", true)
  | 17 => ("TreeToTreeModel", "asked", "I", false)
  | 18 => ("TreeToTreeModel", "barred", "I", false)
  | 19 => ("TreeToTreeModel", "bodies", "[I", true)
  | 20 => ("TreeToTreeModel", "ran", "I", false)
  | 21 => ("TreeToTreeModel", "kind", "I", false)
  | 22 => ("TreeToTreeModel", "number", "I", false)
  | _ => ("TreeToTreeModel", "tellsV", "I", false)
def tyX12 : Nat → FieldType := fun k => match k with
  | 0 => .int
  | 1 => .array .int
  | 2 => .array .int
  | 3 => .boolean
  | 4 => .int
  | 5 => .int
  | 6 => .int
  | 7 => .boolean
  | 8 => .int
  | 9 => .array .int
  | 10 => .array .boolean
  | 11 => .array .int
  | 12 => .array .int
  | 13 => .int
  | 14 => .int
  | 15 => .int
  | 16 => .array .int
  | 17 => .int
  | 18 => .int
  | 19 => .array .int
  | 20 => .int
  | 21 => .int
  | 22 => .int
  | _ => .int
theorem nmX12 : ∀ a, a < 24 → ∀ b, b < 24 → a ≠ b → (TX12 a).2.1 ≠ (TX12 b).2.1 := by decide +kernel
theorem tyX12_ok : ∀ k, k < 24 → parseFieldDescriptor (TX12 k).2.2.1 = some (tyX12 k) := by decide +kernel
abbrev ix_cl : List vw_C := [(RX0, TX0, 3), (RX1, TX1, 3), (RX2, TX2, 3), (RX3, TX3, 10), (RX4, TX4, 6), (RX5, TX5, 7), (RX6, TX6, 3), (RX7, TX7, 3), (RX8, TX8, 5), (RX9, TX9, 3), (RX10, TX10, 5), (RX11, TX11, 17), (RX12, TX12, 24)]
def ix_ty (c k : Nat) : FieldType := match c with
  | 0 => tyX0 k
  | 1 => tyX1 k
  | 2 => tyX2 k
  | 3 => tyX3 k
  | 4 => tyX4 k
  | 5 => tyX5 k
  | 6 => tyX6 k
  | 7 => tyX7 k
  | 8 => tyX8 k
  | 9 => tyX9 k
  | 10 => tyX10 k
  | 11 => tyX11 k
  | 12 => tyX12 k
  | _ => .int
def ix_T (c : Nat) : u_T := match c with
  | 0 => TX0
  | 1 => TX1
  | 2 => TX2
  | 3 => TX3
  | 4 => TX4
  | 5 => TX5
  | 6 => TX6
  | 7 => TX7
  | 8 => TX8
  | 9 => TX9
  | 10 => TX10
  | 11 => TX11
  | 12 => TX12
  | _ => fun _ => ("", "", "", false)
def ix_N (c : Nat) : Nat := [3, 3, 3, 10, 6, 7, 3, 3, 5, 3, 5, 17, 24].getD c 0
def ix_Rs : List String := ["TreeToTree$Broad", "TreeToTree$Hollow", "TreeToTree$Late", "TreeToTree$Park", "TreeToTree$Rows", "TreeToTree$Spot", "TreeToTree$Thick", "TreeToTree$Thin", "TreeToTree$Told", "TreeToTree$Tree", "TreeToTree$Trip", "TreeToTree", "TreeToTreeModel", "TreeToTreeLaw", "java/lang/Math", "java/lang/String", "java/lang/StringLatin1", "jdk/internal/util/Preconditions"]
def ix_R (o : Nat) : String := ix_Rs.getD o ""
/-- the methods: own class, name, code, locals, answer, slots of longs -/
def ix_ms : List (Nat × MethodName × ByteArray × Nat × Option FieldType × List Nat) := [
  (0, ⟨"TreeToTree$Broad", "<init>", "(LTreeToTree$Spot;I)V"⟩, prog_2_method_1_code, 3, none, []),
  (0, ⟨"TreeToTree$Broad", "wetAt", "(I)I"⟩, prog_2_method_2_code, 2, (some .int), []),
  (0, ⟨"TreeToTree$Broad", "actHolds", "(LTreeToTree$Rows;I)I"⟩, prog_2_method_3_code, 3, (some .int), []),
  (1, ⟨"TreeToTree$Hollow", "<init>", "(LTreeToTree$Spot;I)V"⟩, prog_3_method_1_code, 3, none, []),
  (1, ⟨"TreeToTree$Hollow", "wetAt", "(I)I"⟩, prog_3_method_2_code, 3, (some .int), []),
  (1, ⟨"TreeToTree$Hollow", "actTells", "(LTreeToTree$Rows;I)I"⟩, prog_3_method_3_code, 3, (some .int), []),
  (2, ⟨"TreeToTree$Late", "<init>", "(LTreeToTree$Spot;I)V"⟩, prog_4_method_1_code, 3, none, []),
  (2, ⟨"TreeToTree$Late", "wetAt", "(I)I"⟩, prog_4_method_2_code, 3, (some .int), []),
  (2, ⟨"TreeToTree$Late", "actTells", "(LTreeToTree$Rows;I)I"⟩, prog_4_method_3_code, 3, (some .int), []),
  (3, ⟨"TreeToTree$Park", "<init>", "()V"⟩, prog_5_method_1_code, 1, none, []),
  (3, ⟨"TreeToTree$Park", "read", "(LTreeToTree$Rows;)I"⟩, prog_5_method_2_code, 4, (some .int), []),
  (3, ⟨"TreeToTree$Park", "step", "()V"⟩, prog_5_method_11_code, 1, none, []),
  (3, ⟨"TreeToTree$Park", "readClause", "()Z"⟩, prog_5_method_3_code, 3, (some .boolean), []),
  (3, ⟨"TreeToTree$Park", "readWord", "(Ljava/lang/String;)Z"⟩, prog_5_method_4_code, 3, (some .boolean), []),
  (3, ⟨"TreeToTree$Park", "readSign", "(I)Z"⟩, prog_5_method_5_code, 2, (some .boolean), []),
  (3, ⟨"TreeToTree$Park", "readNumber", "()Z"⟩, prog_5_method_6_code, 1, (some .boolean), []),
  (3, ⟨"TreeToTree$Park", "isDigit", "()Z"⟩, prog_5_method_10_code, 1, (some .boolean), []),
  (3, ⟨"TreeToTree$Park", "readChoice", "(I)Z"⟩, prog_5_method_7_code, 5, (some .boolean), []),
  (3, ⟨"TreeToTree$Park", "readPart", "(I)Z"⟩, prog_5_method_8_code, 3, (some .boolean), []),
  (3, ⟨"TreeToTree$Park", "readTest", "()Z"⟩, prog_5_method_9_code, 3, (some .boolean), []),
  (3, ⟨"TreeToTree$Park", "emit", "(II)V"⟩, prog_5_method_12_code, 3, none, []),
  (3, ⟨"TreeToTree$Park", "rainAt", "(IIII)I"⟩, prog_5_method_13_code, 13, (some .int), [6]),
  (4, ⟨"TreeToTree$Rows", "<init>", "(II)V"⟩, prog_6_method_1_code, 3, none, []),
  (4, ⟨"TreeToTree$Rows", "add", "(III)I"⟩, prog_6_method_6_code, 5, (some .int), []),
  (4, ⟨"TreeToTree$Rows", "set", "(III)V"⟩, prog_6_method_5_code, 5, none, []),
  (4, ⟨"TreeToTree$Rows", "full", "()Z"⟩, prog_6_method_3_code, 1, (some .boolean), []),
  (4, ⟨"TreeToTree$Rows", "cell", "(II)I"⟩, prog_6_method_4_code, 4, (some .int), []),
  (4, ⟨"TreeToTree$Rows", "clear", "()V"⟩, prog_6_method_7_code, 1, none, []),
  (4, ⟨"TreeToTree$Rows", "has", "(I)Z"⟩, prog_6_method_2_code, 2, (some .boolean), []),
  (4, ⟨"TreeToTree$Rows", "keep", "()V"⟩, prog_6_method_8_code, 1, none, []),
  (4, ⟨"TreeToTree$Rows", "bringBack", "()V"⟩, prog_6_method_9_code, 1, none, []),
  (5, ⟨"TreeToTree$Spot", "<init>", "(LTreeToTree$Park;)V"⟩, prog_7_method_1_code, 2, none, []),
  (5, ⟨"TreeToTree$Spot", "follow", "(LTreeToTree$Park;)V"⟩, prog_7_method_2_code, 2, none, []),
  (5, ⟨"TreeToTree$Spot", "become", "(IIII)V"⟩, prog_7_method_3_code, 5, none, []),
  (5, ⟨"TreeToTree$Spot", "rainAt", "(I)I"⟩, prog_7_method_5_code, 2, (some .int), []),
  (5, ⟨"TreeToTree$Spot", "ahead", "(I)I"⟩, prog_7_method_4_code, 4, (some .int), []),
  (6, ⟨"TreeToTree$Thick", "<init>", "(LTreeToTree$Spot;I)V"⟩, prog_8_method_1_code, 3, none, []),
  (6, ⟨"TreeToTree$Thick", "wetAt", "(I)I"⟩, prog_8_method_2_code, 2, (some .int), []),
  (6, ⟨"TreeToTree$Thick", "actHolds", "(LTreeToTree$Rows;I)I"⟩, prog_8_method_3_code, 3, (some .int), []),
  (7, ⟨"TreeToTree$Thin", "<init>", "(LTreeToTree$Spot;I)V"⟩, prog_9_method_1_code, 3, none, []),
  (7, ⟨"TreeToTree$Thin", "wetAt", "(I)I"⟩, prog_9_method_2_code, 3, (some .int), []),
  (7, ⟨"TreeToTree$Thin", "actDrips", "(LTreeToTree$Rows;I)I"⟩, prog_9_method_3_code, 3, (some .int), []),
  (8, ⟨"TreeToTree$Told", "<init>", "(LTreeToTree$Spot;I)V"⟩, prog_10_method_1_code, 3, none, []),
  (8, ⟨"TreeToTree$Told", "wetAt", "(I)I"⟩, prog_10_method_3_code, 4, (some .int), []),
  (8, ⟨"TreeToTree$Told", "setMore", "(II)I"⟩, prog_10_method_2_code, 4, (some .int), []),
  (8, ⟨"TreeToTree$Told", "actDrips", "(LTreeToTree$Rows;I)I"⟩, prog_10_method_4_code, 3, (some .int), []),
  (8, ⟨"TreeToTree$Told", "keep", "()V"⟩, prog_10_method_5_code, 1, none, []),
  (8, ⟨"TreeToTree$Told", "bringBack", "()V"⟩, prog_10_method_6_code, 1, none, []),
  (9, ⟨"TreeToTree$Tree", "<init>", "(LTreeToTree$Spot;I)V"⟩, prog_11_method_1_code, 3, none, []),
  (9, ⟨"TreeToTree$Tree", "isAboveHolds", "(I)Z"⟩, prog_11_method_4_code, 2, (some .boolean), []),
  (9, ⟨"TreeToTree$Tree", "wetAt", "(I)I"⟩, prog_11_method_2_code, 2, (some .int), []),
  (9, ⟨"TreeToTree$Tree", "through", "(I)I"⟩, prog_11_method_3_code, 2, (some .int), []),
  (9, ⟨"TreeToTree$Tree", "actHolds", "(LTreeToTree$Rows;I)I"⟩, prog_11_method_5_code, 3, (some .int), []),
  (9, ⟨"TreeToTree$Tree", "actDrips", "(LTreeToTree$Rows;I)I"⟩, prog_11_method_6_code, 3, (some .int), []),
  (9, ⟨"TreeToTree$Tree", "actTells", "(LTreeToTree$Rows;I)I"⟩, prog_11_method_7_code, 3, (some .int), []),
  (9, ⟨"TreeToTree$Tree", "keep", "()V"⟩, prog_11_method_8_code, 1, none, []),
  (9, ⟨"TreeToTree$Tree", "bringBack", "()V"⟩, prog_11_method_9_code, 1, none, []),
  (10, ⟨"TreeToTree$Trip", "<init>", "(LTreeToTree$Spot;)V"⟩, prog_12_method_1_code, 2, none, []),
  (10, ⟨"TreeToTree$Trip", "setOut", "(II)V"⟩, prog_12_method_2_code, 3, none, []),
  (10, ⟨"TreeToTree$Trip", "walk", "(I)V"⟩, prog_12_method_4_code, 3, none, []),
  (10, ⟨"TreeToTree$Trip", "visit", "(LTreeToTree$Tree;I)V"⟩, prog_12_method_6_code, 4, none, []),
  (10, ⟨"TreeToTree$Trip", "endure", "(I)V"⟩, prog_12_method_5_code, 2, none, []),
  (10, ⟨"TreeToTree$Trip", "take", "(LTreeToTree$Trip;)V"⟩, prog_12_method_3_code, 2, none, []),
  (11, ⟨"TreeToTree", "<init>", "()V"⟩, prog_1_method_1_code, 2, none, []),
  (11, ⟨"TreeToTree", "feed", "(I)I"⟩, prog_1_method_2_code, 2, (some .int), []),
  (11, ⟨"TreeToTree", "within", "(III)Z"⟩, prog_1_method_47_code, 3, (some .boolean), []),
  (11, ⟨"TreeToTree", "park", "()I"⟩, prog_1_method_3_code, 4, (some .int), []),
  (11, ⟨"TreeToTree", "number", "(I)I"⟩, prog_1_method_48_code, 2, (some .int), []),
  (11, ⟨"TreeToTree", "parkInSlot", "(I)LTreeToTree$Park;"⟩, prog_1_method_54_code, 2, (some (.object "TreeToTree$Park")), []),
  (11, ⟨"TreeToTree", "setNumber", "(II)I"⟩, prog_1_method_49_code, 4, (some .int), []),
  (11, ⟨"TreeToTree", "followNewestPark", "()V"⟩, prog_1_method_55_code, 3, none, []),
  (11, ⟨"TreeToTree", "tree", "(IIII)I"⟩, prog_1_method_4_code, 7, (some .int), []),
  (11, ⟨"TreeToTree", "planted", "(LTreeToTree$Spot;I)LTreeToTree$Tree;"⟩, prog_1_method_56_code, 2, (some (.object "TreeToTree$Tree")), []),
  (11, ⟨"TreeToTree", "of", "(II)I"⟩, prog_1_method_5_code, 4, (some .int), []),
  (11, ⟨"TreeToTree", "treeAt", "(I)LTreeToTree$Tree;"⟩, prog_1_method_53_code, 2, (some (.object "TreeToTree$Tree")), []),
  (11, ⟨"TreeToTree", "now", "()I"⟩, prog_1_method_50_code, 1, (some .int), []),
  (11, ⟨"TreeToTree", "hold", "(II)I"⟩, prog_1_method_6_code, 5, (some .int), []),
  (11, ⟨"TreeToTree", "row", "(III)I"⟩, prog_1_method_7_code, 6, (some .int), []),
  (11, ⟨"TreeToTree", "walker", "(II)I"⟩, prog_1_method_8_code, 3, (some .int), []),
  (11, ⟨"TreeToTree", "at", "(II)I"⟩, prog_1_method_9_code, 3, (some .int), []),
  (11, ⟨"TreeToTree", "gear", "(III)I"⟩, prog_1_method_10_code, 5, (some .int), []),
  (11, ⟨"TreeToTree", "paceOf", "(I)I"⟩, prog_1_method_51_code, 2, (some .int), []),
  (11, ⟨"TreeToTree", "home", "(I)I"⟩, prog_1_method_11_code, 2, (some .int), []),
  (11, ⟨"TreeToTree", "told", "(I)I"⟩, prog_1_method_12_code, 2, (some .int), []),
  (11, ⟨"TreeToTree", "go", "(I)I"⟩, prog_1_method_13_code, 3, (some .int), []),
  (11, ⟨"TreeToTree", "rain", "(II)I"⟩, prog_1_method_14_code, 5, (some .int), []),
  (11, ⟨"TreeToTree", "under", "(II)I"⟩, prog_1_method_15_code, 4, (some .int), []),
  (11, ⟨"TreeToTree", "straight", "(II)I"⟩, prog_1_method_16_code, 3, (some .int), []),
  (11, ⟨"TreeToTree", "setOut", "(LTreeToTree$Trip;I)V"⟩, prog_1_method_58_code, 3, none, []),
  (11, ⟨"TreeToTree", "outcome", "(LTreeToTree$Trip;II)I"⟩, prog_1_method_60_code, 6, (some .int), []),
  (11, ⟨"TreeToTree", "coatOf", "(I)I"⟩, prog_1_method_52_code, 2, (some .int), []),
  (11, ⟨"TreeToTree", "wetBy", "(II)I"⟩, prog_1_method_59_code, 3, (some .int), []),
  (11, ⟨"TreeToTree", "leg", "(II)I"⟩, prog_1_method_17_code, 3, (some .int), []),
  (11, ⟨"TreeToTree", "way", "(II)I"⟩, prog_1_method_18_code, 5, (some .int), []),
  (11, ⟨"TreeToTree", "driest", "(II)I"⟩, prog_1_method_19_code, 3, (some .int), []),
  (11, ⟨"TreeToTree", "search", "(III)V"⟩, prog_1_method_64_code, 7, none, []),
  (11, ⟨"TreeToTree", "offer", "(LTreeToTree$Trip;III)Z"⟩, prog_1_method_66_code, 7, (some .boolean), []),
  (11, ⟨"TreeToTree", "isBetter", "(III)Z"⟩, prog_1_method_67_code, 4, (some .boolean), []),
  (11, ⟨"TreeToTree", "nameShelters", "(IIII)V"⟩, prog_1_method_68_code, 5, none, []),
  (11, ⟨"TreeToTree", "searchSecond", "(IIIII)V"⟩, prog_1_method_65_code, 9, none, []),
  (11, ⟨"TreeToTree", "cheapest", "(II)I"⟩, prog_1_method_20_code, 3, (some .int), []),
  (11, ⟨"TreeToTree", "stay", "(III)I"⟩, prog_1_method_21_code, 9, (some .int), []),
  (11, ⟨"TreeToTree", "visited", "(ILTreeToTree$Tree;II)I"⟩, prog_1_method_62_code, 5, (some .int), []),
  (11, ⟨"TreeToTree", "soaked", "(I)I"⟩, prog_1_method_22_code, 4, (some .int), []),
  (11, ⟨"TreeToTree", "dry", "(I)I"⟩, prog_1_method_23_code, 4, (some .int), []),
  (11, ⟨"TreeToTree", "drips", "(I)I"⟩, prog_1_method_24_code, 6, (some .int), []),
  (11, ⟨"TreeToTree", "coats", "(I)I"⟩, prog_1_method_25_code, 3, (some .int), []),
  (11, ⟨"TreeToTree", "wetStraight", "(III)I"⟩, prog_1_method_61_code, 4, (some .int), []),
  (11, ⟨"TreeToTree", "shared", "(II)I"⟩, prog_1_method_26_code, 5, (some .int), []),
  (11, ⟨"TreeToTree", "run", "(I)I"⟩, prog_1_method_27_code, 4, (some .int), []),
  (11, ⟨"TreeToTree", "begin", "(II)I"⟩, prog_1_method_28_code, 7, (some .int), []),
  (11, ⟨"TreeToTree", "worth", "(I)I"⟩, prog_1_method_29_code, 5, (some .int), []),
  (11, ⟨"TreeToTree", "first", "(I)I"⟩, prog_1_method_30_code, 6, (some .int), []),
  (11, ⟨"TreeToTree", "stops", "()I"⟩, prog_1_method_31_code, 3, (some .int), []),
  (11, ⟨"TreeToTree", "see", "(I)I"⟩, prog_1_method_32_code, 2, (some .int), []),
  (11, ⟨"TreeToTree", "stood", "(III)I"⟩, prog_1_method_33_code, 8, (some .int), []),
  (11, ⟨"TreeToTree", "who", "()I"⟩, prog_1_method_34_code, 3, (some .int), []),
  (11, ⟨"TreeToTree", "odds", "(III)J"⟩, prog_1_method_35_code, 6, (some .long), []),
  (11, ⟨"TreeToTree", "lowest", "(III)J"⟩, prog_1_method_69_code, 5, (some .long), []),
  (11, ⟨"TreeToTree", "mean", "(III)J"⟩, prog_1_method_36_code, 7, (some .long), []),
  (11, ⟨"TreeToTree", "rule", "(II)I"⟩, prog_1_method_37_code, 3, (some .int), []),
  (11, ⟨"TreeToTree", "ruled", "(II)I"⟩, prog_1_method_38_code, 5, (some .int), []),
  (11, ⟨"TreeToTree", "followRule", "(LTreeToTree$Tree;I)V"⟩, prog_1_method_63_code, 5, none, []),
  (11, ⟨"TreeToTree", "book", "(III)I"⟩, prog_1_method_39_code, 4, (some .int), []),
  (11, ⟨"TreeToTree", "looked", "()I"⟩, prog_1_method_40_code, 3, (some .int), []),
  (11, ⟨"TreeToTree", "act", "(III)I"⟩, prog_1_method_41_code, 5, (some .int), []),
  (11, ⟨"TreeToTree", "trace", "(I)I"⟩, prog_1_method_42_code, 2, (some .int), []),
  (11, ⟨"TreeToTree", "as", "(II)I"⟩, prog_1_method_43_code, 4, (some .int), []),
  (11, ⟨"TreeToTree", "isOfKind", "(LTreeToTree$Tree;I)Z"⟩, prog_1_method_57_code, 2, (some .boolean), []),
  (11, ⟨"TreeToTree", "image", "()I"⟩, prog_1_method_44_code, 3, (some .int), []),
  (11, ⟨"TreeToTree", "undo", "()I"⟩, prog_1_method_45_code, 4, (some .int), []),
  (11, ⟨"TreeToTree", "count", "(I)I"⟩, prog_1_method_46_code, 2, (some .int), []),
  (12, ⟨"TreeToTreeModel", "<init>", "()V"⟩, prog_14_method_1_code, 1, none, []),
  (12, ⟨"TreeToTreeModel", "feed", "(I)I"⟩, prog_14_method_7_code, 2, (some .int), []),
  (12, ⟨"TreeToTreeModel", "in", "(III)Z"⟩, prog_14_method_3_code, 3, (some .boolean), []),
  (12, ⟨"TreeToTreeModel", "park", "()I"⟩, prog_14_method_20_code, 2, (some .int), []),
  (12, ⟨"TreeToTreeModel", "clauseHere", "()V"⟩, prog_14_method_19_code, 1, none, []),
  (12, ⟨"TreeToTreeModel", "here", "()I"⟩, prog_14_method_8_code, 1, (some .int), []),
  (12, ⟨"TreeToTreeModel", "tellsHere", "(ILjava/lang/String;)V"⟩, prog_14_method_18_code, 4, none, []),
  (12, ⟨"TreeToTreeModel", "spells", "(Ljava/lang/String;)V"⟩, prog_14_method_10_code, 3, none, []),
  (12, ⟨"TreeToTreeModel", "must", "(I)V"⟩, prog_14_method_9_code, 2, none, []),
  (12, ⟨"TreeToTreeModel", "figures", "()I"⟩, prog_14_method_11_code, 3, (some .int), []),
  (12, ⟨"TreeToTreeModel", "much", "(ILjava/lang/String;)V"⟩, prog_14_method_17_code, 4, none, []),
  (12, ⟨"TreeToTreeModel", "some", "()V"⟩, prog_14_method_16_code, 1, none, []),
  (12, ⟨"TreeToTreeModel", "every", "()V"⟩, prog_14_method_15_code, 1, none, []),
  (12, ⟨"TreeToTreeModel", "factor", "()V"⟩, prog_14_method_14_code, 5, none, []),
  (12, ⟨"TreeToTreeModel", "emits", "(I)V"⟩, prog_14_method_13_code, 2, none, []),
  (12, ⟨"TreeToTreeModel", "among", "(Ljava/lang/String;)I"⟩, prog_14_method_12_code, 3, (some .int), []),
  (12, ⟨"TreeToTreeModel", "forgets", "()V"⟩, prog_14_method_23_code, 2, none, []),
  (12, ⟨"TreeToTreeModel", "tree", "(IIII)I"⟩, prog_14_method_30_code, 7, (some .int), []),
  (12, ⟨"TreeToTreeModel", "of", "(II)I"⟩, prog_14_method_31_code, 3, (some .int), []),
  (12, ⟨"TreeToTreeModel", "isTree", "(I)Z"⟩, prog_14_method_5_code, 2, (some .boolean), []),
  (12, ⟨"TreeToTreeModel", "underAt", "(II)I"⟩, prog_14_method_29_code, 3, (some .int), []),
  (12, ⟨"TreeToTreeModel", "through", "(II)I"⟩, prog_14_method_26_code, 3, (some .int), []),
  (12, ⟨"TreeToTreeModel", "fellBy", "(II)I"⟩, prog_14_method_24_code, 4, (some .int), []),
  (12, ⟨"TreeToTreeModel", "looks", "(II)I"⟩, prog_14_method_22_code, 12, (some .int), []),
  (12, ⟨"TreeToTreeModel", "tellsOf", "(II)I"⟩, prog_14_method_21_code, 3, (some .int), []),
  (12, ⟨"TreeToTreeModel", "above", "(I)I"⟩, prog_14_method_4_code, 1, (some .int), []),
  (12, ⟨"TreeToTreeModel", "thin", "(II)I"⟩, prog_14_method_27_code, 4, (some .int), []),
  (12, ⟨"TreeToTreeModel", "rainAt", "(II)I"⟩, prog_14_method_25_code, 3, (some .int), []),
  (12, ⟨"TreeToTreeModel", "late", "(II)I"⟩, prog_14_method_28_code, 5, (some .int), []),
  (12, ⟨"TreeToTreeModel", "hold", "(II)I"⟩, prog_14_method_32_code, 4, (some .int), []),
  (12, ⟨"TreeToTreeModel", "row", "(III)I"⟩, prog_14_method_33_code, 5, (some .int), []),
  (12, ⟨"TreeToTreeModel", "walker", "(II)I"⟩, prog_14_method_34_code, 3, (some .int), []),
  (12, ⟨"TreeToTreeModel", "at", "(II)I"⟩, prog_14_method_35_code, 3, (some .int), []),
  (12, ⟨"TreeToTreeModel", "isWalker", "(I)Z"⟩, prog_14_method_6_code, 2, (some .boolean), []),
  (12, ⟨"TreeToTreeModel", "gear", "(III)I"⟩, prog_14_method_36_code, 5, (some .int), []),
  (12, ⟨"TreeToTreeModel", "home", "(I)I"⟩, prog_14_method_37_code, 3, (some .int), []),
  (12, ⟨"TreeToTreeModel", "told", "(I)I"⟩, prog_14_method_38_code, 2, (some .int), []),
  (12, ⟨"TreeToTreeModel", "go", "(I)I"⟩, prog_14_method_39_code, 2, (some .int), []),
  (12, ⟨"TreeToTreeModel", "rain", "(II)I"⟩, prog_14_method_40_code, 3, (some .int), []),
  (12, ⟨"TreeToTreeModel", "under", "(II)I"⟩, prog_14_method_41_code, 3, (some .int), []),
  (12, ⟨"TreeToTreeModel", "straight", "(II)I"⟩, prog_14_method_50_code, 3, (some .int), []),
  (12, ⟨"TreeToTreeModel", "goesStraight", "(II)V"⟩, prog_14_method_49_code, 3, none, []),
  (12, ⟨"TreeToTreeModel", "starts", "(I)V"⟩, prog_14_method_42_code, 2, none, []),
  (12, ⟨"TreeToTreeModel", "walks", "(II)V"⟩, prog_14_method_43_code, 5, none, []),
  (12, ⟨"TreeToTreeModel", "tells", "(II)I"⟩, prog_14_method_48_code, 4, (some .int), []),
  (12, ⟨"TreeToTreeModel", "wetBy", "(I)I"⟩, prog_14_method_45_code, 3, (some .int), []),
  (12, ⟨"TreeToTreeModel", "minutesNow", "()I"⟩, prog_14_method_46_code, 1, (some .int), []),
  (12, ⟨"TreeToTreeModel", "costBy", "(I)I"⟩, prog_14_method_47_code, 2, (some .int), []),
  (12, ⟨"TreeToTreeModel", "leg", "(II)I"⟩, prog_14_method_51_code, 3, (some .int), []),
  (12, ⟨"TreeToTreeModel", "way", "(II)I"⟩, prog_14_method_52_code, 6, (some .int), []),
  (12, ⟨"TreeToTreeModel", "waits", "(II)V"⟩, prog_14_method_44_code, 4, none, []),
  (12, ⟨"TreeToTreeModel", "driest", "(II)I"⟩, prog_14_method_56_code, 3, (some .int), []),
  (12, ⟨"TreeToTreeModel", "looksForBest", "(III)V"⟩, prog_14_method_55_code, 7, none, []),
  (12, ⟨"TreeToTreeModel", "ends", "(IIIIII)V"⟩, prog_14_method_53_code, 12, none, []),
  (12, ⟨"TreeToTreeModel", "looksForSecond", "(III)V"⟩, prog_14_method_54_code, 9, none, []),
  (12, ⟨"TreeToTreeModel", "cheapest", "(II)I"⟩, prog_14_method_57_code, 3, (some .int), []),
  (12, ⟨"TreeToTreeModel", "stay", "(III)I"⟩, prog_14_method_59_code, 8, (some .int), []),
  (12, ⟨"TreeToTreeModel", "goesBy", "(III)V"⟩, prog_14_method_58_code, 4, none, []),
  (12, ⟨"TreeToTreeModel", "soaked", "(I)I"⟩, prog_14_method_60_code, 3, (some .int), []),
  (12, ⟨"TreeToTreeModel", "dry", "(I)I"⟩, prog_14_method_61_code, 3, (some .int), []),
  (12, ⟨"TreeToTreeModel", "drips", "(I)I"⟩, prog_14_method_62_code, 4, (some .int), []),
  (12, ⟨"TreeToTreeModel", "coats", "(I)I"⟩, prog_14_method_63_code, 3, (some .int), []),
  (12, ⟨"TreeToTreeModel", "shared", "(II)I"⟩, prog_14_method_64_code, 3, (some .int), []),
  (12, ⟨"TreeToTreeModel", "run", "(I)I"⟩, prog_14_method_65_code, 4, (some .int), []),
  (12, ⟨"TreeToTreeModel", "begin", "(II)I"⟩, prog_14_method_66_code, 7, (some .int), []),
  (12, ⟨"TreeToTreeModel", "worth", "(I)I"⟩, prog_14_method_67_code, 4, (some .int), []),
  (12, ⟨"TreeToTreeModel", "first", "(I)I"⟩, prog_14_method_68_code, 6, (some .int), []),
  (12, ⟨"TreeToTreeModel", "stops", "()I"⟩, prog_14_method_69_code, 3, (some .int), []),
  (12, ⟨"TreeToTreeModel", "see", "(I)I"⟩, prog_14_method_70_code, 3, (some .int), []),
  (12, ⟨"TreeToTreeModel", "stood", "(III)I"⟩, prog_14_method_71_code, 8, (some .int), []),
  (12, ⟨"TreeToTreeModel", "who", "()I"⟩, prog_14_method_72_code, 3, (some .int), []),
  (12, ⟨"TreeToTreeModel", "odds", "(III)J"⟩, prog_14_method_74_code, 7, (some .long), [4]),
  (12, ⟨"TreeToTreeModel", "lowest", "(JJI)J"⟩, prog_14_method_73_code, 11, (some .long), [0, 2, 5, 7, 9]),
  (12, ⟨"TreeToTreeModel", "mean", "(III)J"⟩, prog_14_method_75_code, 4, (some .long), []),
  (12, ⟨"TreeToTreeModel", "rule", "(II)I"⟩, prog_14_method_76_code, 3, (some .int), []),
  (12, ⟨"TreeToTreeModel", "ruled", "(II)I"⟩, prog_14_method_77_code, 7, (some .int), []),
  (12, ⟨"TreeToTreeModel", "book", "(III)I"⟩, prog_14_method_78_code, 4, (some .int), []),
  (12, ⟨"TreeToTreeModel", "looked", "()I"⟩, prog_14_method_79_code, 2, (some .int), []),
  (12, ⟨"TreeToTreeModel", "act", "(III)I"⟩, prog_14_method_88_code, 4, (some .int), []),
  (12, ⟨"TreeToTreeModel", "holdsActs", "(I)I"⟩, prog_14_method_83_code, 2, (some .int), []),
  (12, ⟨"TreeToTreeModel", "isUnder", "(II)Z"⟩, prog_14_method_81_code, 2, (some .boolean), []),
  (12, ⟨"TreeToTreeModel", "ranBody", "(I)V"⟩, prog_14_method_80_code, 2, none, []),
  (12, ⟨"TreeToTreeModel", "plainHolds", "(I)I"⟩, prog_14_method_82_code, 2, (some .int), []),
  (12, ⟨"TreeToTreeModel", "dripsActs", "(I)I"⟩, prog_14_method_85_code, 2, (some .int), []),
  (12, ⟨"TreeToTreeModel", "plainDrips", "(I)I"⟩, prog_14_method_84_code, 2, (some .int), []),
  (12, ⟨"TreeToTreeModel", "tellsActs", "(I)I"⟩, prog_14_method_87_code, 3, (some .int), []),
  (12, ⟨"TreeToTreeModel", "plainTells", "(I)I"⟩, prog_14_method_86_code, 2, (some .int), []),
  (12, ⟨"TreeToTreeModel", "trace", "(I)I"⟩, prog_14_method_89_code, 2, (some .int), []),
  (12, ⟨"TreeToTreeModel", "as", "(II)I"⟩, prog_14_method_90_code, 3, (some .int), []),
  (12, ⟨"TreeToTreeModel", "image", "()I"⟩, prog_14_method_91_code, 2, (some .int), []),
  (12, ⟨"TreeToTreeModel", "undo", "()I"⟩, prog_14_method_92_code, 2, (some .int), []),
  (12, ⟨"TreeToTreeModel", "count", "(I)I"⟩, prog_14_method_93_code, 2, (some .int), []),
  (15, ⟨"java/lang/String", "length", "()I"⟩, prog_17_method_54_code, 1, (some .int), []),
  (15, ⟨"java/lang/String", "coder", "()B"⟩, prog_17_method_152_code, 1, (some .byte), []),
  (15, ⟨"java/lang/String", "charAt", "(I)C"⟩, prog_17_method_56_code, 2, (some .char), []),
  (15, ⟨"java/lang/String", "isLatin1", "()Z"⟩, prog_17_method_154_code, 1, (some .boolean), []),
  (15, ⟨"java/lang/String", "checkIndex", "(II)V"⟩, prog_17_method_155_code, 2, none, []),
  (15, ⟨"java/lang/String", "indexOf", "(I)I"⟩, prog_17_method_79_code, 2, (some .int), []),
  (15, ⟨"java/lang/String", "indexOf", "(II)I"⟩, prog_17_method_80_code, 3, (some .int), []),
  (16, ⟨"java/lang/StringLatin1", "charAt", "([BI)C"⟩, prog_18_method_2_code, 2, (some .char), []),
  (16, ⟨"java/lang/StringLatin1", "indexOf", "([BIII)I"⟩, prog_18_method_22_code, 4, (some .int), []),
  (16, ⟨"java/lang/StringLatin1", "canEncode", "(I)Z"⟩, prog_18_method_4_code, 1, (some .boolean), []),
  (16, ⟨"java/lang/StringLatin1", "indexOfChar", "([BIII)I"⟩, prog_18_method_23_code, 6, (some .int), []),
  (17, ⟨"jdk/internal/util/Preconditions", "checkIndex", "(IILjava/util/function/BiFunction;)I"⟩, prog_21_method_11_code, 3, (some .int), []),
  (13, ⟨"TreeToTreeLaw", "law", "([I)Z"⟩, code, 4, (some .boolean), [])]
def ix_m (j : Nat) : Nat × MethodName × ByteArray × Nat × Option FieldType × List Nat := ix_ms.getD j (0, ⟨"", "", ""⟩, ⟨#[]⟩, 0, none, [])
def ix_o (j : Nat) : Nat := (ix_m j).1
def ix_y (j : Nat) : MethodName := (ix_m j).2.1
def ix_cc (j : Nat) : ByteArray := (ix_m j).2.2.1
def ix_mx (j : Nat) : Nat := (ix_m j).2.2.2.1
def ix_rt (j : Nat) : Option FieldType := (ix_m j).2.2.2.2.1
def ix_lg (j : Nat) : List Nat := (ix_m j).2.2.2.2.2
def ix_fin (j c k : Nat) : Bool := !(ix_T c k).2.2.2 || ((ix_y j).name == "<init>" && (ix_T c k).1 == ix_R (ix_o j))
def ix_okst (t c : Nat) : Bool := (t == 2 && [0, 1, 2, 6, 7, 8, 9].contains c) || (t == 3 && c == 5) || (t == 4 && c == 3)
def ix_txt : List (List Int32) := [[115, 111, 97, 107, 32], [119, 97, 105, 116, 32], [114, 97, 105, 110, 32], [108, 101, 115, 115, 32], [109, 104, 116, 107, 118], [60, 61, 62]]
def ix_tbyt (i : Nat) : List Int32 := ix_txt.getD i []
def ix_tlen (i : Nat) : Nat := (ix_tbyt i).length
/-- fields: the slot, the classes, 0 plain, 1 of a nest mate, 2, 3 a text's; the class that the reference names -/
def ix_fis : List (Nat × Nat × Nat × List Nat × Nat × Nat) := [
  (0, 27, 0, [0], 0, 0),
  (0, 33, 3, [5], 1, 5),
  (1, 7, 0, [1], 0, 1),
  (1, 13, 5, [5], 1, 5),
  (2, 7, 0, [2, 8], 0, 2),
  (2, 13, 5, [5], 1, 5),
  (3, 9, 0, [3], 0, 3),
  (3, 15, 1, [3], 0, 3),
  (3, 18, 2, [3], 0, 3),
  (3, 22, 4, [3], 0, 3),
  (3, 25, 5, [3], 0, 3),
  (3, 28, 3, [3], 0, 3),
  (3, 31, 4, [4], 1, 4),
  (3, 42, 6, [3], 0, 3),
  (3, 46, 7, [3], 0, 3),
  (3, 56, 8, [3], 0, 3),
  (3, 69, 9, [3], 0, 3),
  (4, 13, 0, [4], 0, 4),
  (4, 19, 1, [4], 0, 4),
  (4, 22, 2, [4], 0, 4),
  (4, 26, 3, [4], 0, 4),
  (4, 29, 4, [4], 0, 4),
  (4, 41, 5, [4], 0, 4),
  (5, 9, 0, [5], 0, 5),
  (5, 15, 3, [5], 0, 5),
  (5, 19, 4, [5], 0, 5),
  (5, 22, 5, [5], 0, 5),
  (5, 25, 2, [5], 0, 5),
  (5, 29, 1, [5], 0, 5),
  (5, 32, 6, [5], 0, 5),
  (7, 7, 0, [0, 7], 0, 7),
  (7, 22, 1, [0, 7], 0, 7),
  (7, 26, 5, [5], 1, 5),
  (8, 9, 3, [8], 0, 8),
  (8, 15, 4, [8], 0, 8),
  (8, 36, 0, [8], 0, 8),
  (8, 40, 5, [5], 1, 5),
  (9, 7, 0, [0, 1, 2, 6, 7, 8, 9], 0, 9),
  (9, 13, 1, [0, 1, 2, 6, 7, 8, 9], 0, 9),
  (9, 38, 3, [5], 1, 5),
  (9, 45, 5, [5], 1, 5),
  (9, 51, 2, [0, 1, 2, 6, 7, 8, 9], 0, 9),
  (10, 7, 1, [10], 0, 10),
  (10, 13, 0, [10], 0, 10),
  (10, 23, 2, [10], 0, 10),
  (10, 26, 3, [10], 0, 10),
  (10, 29, 4, [10], 0, 10),
  (10, 41, 0, [0, 1, 2, 6, 7, 8, 9], 0, 9),
  (10, 46, 6, [5], 1, 5),
  (11, 14, 0, [11], 0, 11),
  (11, 20, 1, [11], 0, 11),
  (11, 23, 2, [11], 0, 11),
  (11, 26, 3, [11], 0, 11),
  (11, 29, 4, [11], 0, 11),
  (11, 32, 5, [11], 0, 11),
  (11, 35, 6, [11], 0, 11),
  (11, 40, 7, [11], 0, 11),
  (11, 46, 8, [11], 0, 11),
  (11, 52, 10, [11], 0, 11),
  (11, 56, 16, [11], 0, 11),
  (11, 61, 11, [11], 0, 11),
  (11, 68, 9, [11], 0, 11),
  (11, 77, 13, [11], 0, 11),
  (11, 81, 14, [11], 0, 11),
  (11, 84, 15, [11], 0, 11),
  (11, 103, 4, [4], 1, 4),
  (11, 146, 0, [0, 1, 2, 6, 7, 8, 9], 0, 9),
  (11, 149, 4, [5], 1, 5),
  (11, 152, 5, [5], 1, 5),
  (11, 155, 1, [0, 1, 2, 6, 7, 8, 9], 0, 9),
  (11, 158, 6, [5], 1, 5),
  (11, 183, 0, [3], 1, 3),
  (11, 186, 1, [3], 1, 3),
  (11, 257, 12, [11], 0, 11),
  (11, 292, 3, [10], 1, 10),
  (11, 295, 4, [10], 1, 10),
  (12, 9, 1, [12], 0, 12),
  (12, 15, 2, [12], 0, 12),
  (12, 18, 9, [12], 0, 12),
  (12, 21, 10, [12], 0, 12),
  (12, 25, 11, [12], 0, 12),
  (12, 28, 12, [12], 0, 12),
  (12, 31, 16, [12], 0, 12),
  (12, 34, 19, [12], 0, 12),
  (12, 45, 5, [12], 0, 12),
  (12, 48, 6, [12], 0, 12),
  (12, 51, 7, [12], 0, 12),
  (12, 72, 4, [12], 0, 12),
  (12, 75, 8, [12], 0, 12),
  (12, 162, 13, [12], 0, 12),
  (12, 165, 14, [12], 0, 12),
  (12, 168, 15, [12], 0, 12),
  (12, 196, 17, [12], 0, 12),
  (12, 199, 18, [12], 0, 12),
  (12, 225, 20, [12], 0, 12),
  (12, 231, 22, [12], 0, 12),
  (12, 234, 21, [12], 0, 12),
  (12, 247, 23, [12], 0, 12),
  (12, 262, 3, [12], 0, 12),
  (15, 9, 0, [], 2, 15),
  (15, 15, 0, [], 3, 15)]
def ix_fi (o i : Nat) : Option (Nat × List Nat × Nat × Nat) := (ix_fis.find? (fun e => e.1 == o && e.2.1 == i)).map (fun e => e.2.2)
def ix_gss : List (Nat × Nat × Value) := [
  (15, 38, .int 1),
  (15, 1053, .retAddr 1)]
def ix_gs (o i : Nat) : Option (Value) := (ix_gss.find? (fun e => e.1 == o && e.2.1 == i)).map (fun e => e.2.2)
def ix_lcs : List (Nat × Nat × Value) := [
  (3, 63, .retAddr 2),
  (3, 72, .retAddr 4),
  (3, 74, .retAddr 6),
  (3, 76, .retAddr 8),
  (3, 107, .retAddr 10),
  (3, 113, .retAddr 12),
  (3, 115, .long (-2)),
  (11, 213, .int 2147483647),
  (11, 230, .long (-9223372036854775808)),
  (12, 87, .retAddr 10),
  (12, 93, .retAddr 12),
  (12, 105, .retAddr 2),
  (12, 111, .retAddr 4),
  (12, 113, .retAddr 6),
  (12, 118, .retAddr 8),
  (12, 213, .int 100000000),
  (12, 217, .long (-9223372036854775808)),
  (12, 219, .long (10))]
def ix_lc (o i : Nat) : Option (Value) := (ix_lcs.find? (fun e => e.1 == o && e.2.1 == i)).map (fun e => e.2.2)
def ix_nwl : List (Nat × Nat × Nat) := [
  (11, 9, 4),
  (11, 38, 9),
  (11, 44, 5),
  (11, 50, 3),
  (11, 72, 10),
  (11, 168, 8),
  (11, 268, 6),
  (11, 273, 7),
  (11, 276, 2),
  (11, 279, 1),
  (11, 282, 0),
  (13, 7, 11),
  (13, 10, 12)]
def ix_nw (o i : Nat) : Option (Nat) := (ix_nwl.find? (fun e => e.1 == o && e.2.1 == i)).map (fun e => e.2.2)
def ix_ans : List (Nat × Nat × Nat) := [
  (11, 38, 2),
  (11, 44, 3),
  (11, 50, 4)]
def ix_an (o i : Nat) : Option (Nat) := (ix_ans.find? (fun e => e.1 == o && e.2.1 == i)).map (fun e => e.2.2)
def ix_ios : List (Nat × Nat × Nat × List Nat × List Nat) := [
  (11, 168, 8, [8], [0, 1, 2, 6, 7, 9]),
  (11, 268, 6, [1, 6], [0, 2, 7, 8, 9]),
  (11, 273, 7, [0, 7], [1, 2, 6, 8, 9]),
  (11, 276, 2, [2, 8], [0, 1, 6, 7, 9]),
  (11, 279, 1, [1], [0, 2, 6, 7, 8, 9]),
  (11, 282, 0, [0], [1, 2, 6, 7, 8, 9])]
def ix_io (o i : Nat) : Option (Nat × List Nat × List Nat) := (ix_ios.find? (fun e => e.1 == o && e.2.1 == i)).map (fun e => e.2.2)
def ix_cks : List (Nat × Nat × Nat × List Nat) := [
  (11, 168, 8, [8])]
def ix_ck (o i : Nat) : Option (Nat × List Nat) := (ix_cks.find? (fun e => e.1 == o && e.2.1 == i)).map (fun e => e.2.2)
/-- calls: 0 static, 1 made, 2 made by a nest mate, 3 super, 4 virtual (4 own, 5 from above or below), 6 of a text, 7 Object.<init>, 8 arraycopy, 10 max, 11 min, 12 abs; how many arguments; class, method, kind -/
def ix_cas : List (Nat × Nat × Nat × Nat × List (Nat × Nat × Nat)) := [
  (0, 1, 1, 2, [(0, 39, 0)]),
  (0, 7, 3, 1, [(0, 40, 7)]),
  (0, 11, 10, 2, []),
  (0, 17, 4, 3, [(4, 23, 4)]),
  (0, 23, 9, 2, [(0, 52, 7)]),
  (1, 1, 1, 2, [(0, 36, 0)]),
  (1, 19, 3, 1, [(1, 37, 6)]),
  (1, 23, 4, 3, [(4, 23, 4)]),
  (1, 29, 9, 2, [(1, 54, 6)]),
  (1, 33, 4, 2, [(1, 38, 126)]),
  (2, 1, 1, 2, [(0, 48, 0)]),
  (2, 19, 3, 1, [(2, 50, 9), (8, 50, 9)]),
  (2, 23, 4, 1, [(2, 49, 149), (8, 49, 149)]),
  (2, 27, 4, 3, [(4, 23, 4)]),
  (2, 33, 3, 2, [(2, 54, 9), (8, 54, 9)]),
  (3, 3, 7, 0, []),
  (3, 36, 11, 2, []),
  (3, 43, 4, 2, [(4, 26, 4)]),
  (3, 49, 4, 0, [(3, 11, 4)]),
  (3, 52, 4, 0, [(3, 12, 4)]),
  (3, 59, 4, 1, [(3, 14, 4)]),
  (3, 65, 4, 1, [(3, 13, 4)]),
  (3, 78, 4, 1, [(3, 17, 4)]),
  (3, 81, 4, 2, [(3, 20, 4)]),
  (3, 85, 6, 0, [(0, 224, 0)]),
  (3, 91, 6, 1, [(0, 226, 0)]),
  (3, 95, 4, 0, [(3, 15, 4)]),
  (3, 98, 4, 0, [(3, 16, 4)]),
  (3, 101, 4, 1, [(3, 18, 4)]),
  (3, 104, 4, 0, [(3, 19, 4)]),
  (3, 109, 6, 1, [(0, 229, 0)]),
  (4, 1, 7, 0, []),
  (4, 7, 10, 2, []),
  (4, 32, 11, 2, []),
  (4, 35, 8, 5, []),
  (5, 3, 7, 0, []),
  (5, 35, 11, 2, []),
  (5, 41, 10, 2, []),
  (5, 44, 4, 4, [(3, 21, 4)]),
  (5, 50, 4, 1, [(5, 35, 4)]),
  (6, 1, 1, 2, [(0, 48, 0)]),
  (6, 7, 3, 1, [(1, 50, 9), (6, 50, 9)]),
  (6, 11, 4, 3, [(4, 23, 4)]),
  (6, 17, 3, 2, [(1, 52, 9), (6, 52, 9)]),
  (7, 1, 1, 2, [(0, 48, 0)]),
  (7, 13, 4, 1, [(5, 34, 4)]),
  (7, 19, 4, 1, [(5, 35, 4)]),
  (7, 29, 10, 2, []),
  (7, 35, 4, 3, [(4, 23, 4)]),
  (7, 41, 3, 2, [(0, 53, 9), (7, 53, 9)]),
  (8, 3, 1, 2, [(0, 6, 0)]),
  (8, 18, 3, 1, [(8, 7, 2)]),
  (8, 22, 4, 1, [(8, 49, 269)]),
  (8, 26, 4, 3, [(4, 23, 4)]),
  (8, 32, 9, 2, [(8, 53, 2)]),
  (8, 46, 9, 0, [(8, 55, 2)]),
  (8, 50, 8, 5, []),
  (8, 56, 9, 0, [(8, 56, 2)]),
  (9, 1, 7, 0, []),
  (9, 17, 4, 1, [(5, 35, 4)]),
  (9, 23, 4, 1, [(0, 51, 289), (1, 51, 289), (2, 51, 289), (6, 51, 289), (7, 51, 289), (8, 51, 289), (9, 51, 4)]),
  (9, 26, 10, 2, []),
  (9, 32, 4, 3, [(4, 23, 4)]),
  (9, 41, 4, 2, [(0, 2, 289), (1, 38, 289), (2, 52, 289), (6, 38, 289), (7, 52, 289), (8, 52, 289), (9, 52, 4)]),
  (9, 48, 4, 2, [(0, 41, 289), (1, 53, 289), (2, 53, 289), (6, 53, 289), (7, 41, 289), (8, 45, 289), (9, 53, 4)]),
  (10, 1, 7, 0, []),
  (10, 17, 10, 2, []),
  (10, 32, 12, 1, []),
  (10, 36, 4, 1, [(5, 35, 4)]),
  (10, 47, 4, 1, [(10, 59, 4)]),
  (10, 51, 4, 1, [(0, 1, 289), (1, 4, 289), (2, 7, 289), (6, 37, 289), (7, 40, 289), (8, 43, 289), (9, 50, 4)]),
  (10, 54, 4, 1, [(10, 61, 4)]),
  (11, 3, 7, 0, []),
  (11, 11, 1, 2, [(0, 22, 0)]),
  (11, 60, 2, 0, [(0, 9, 0)]),
  (11, 65, 1, 1, [(0, 31, 0)]),
  (11, 74, 1, 1, [(0, 57, 0)]),
  (11, 87, 4, 3, [(4, 23, 4)]),
  (11, 91, 4, 3, [(4, 24, 4)]),
  (11, 95, 0, 3, [(0, 65, 0)]),
  (11, 99, 4, 0, [(4, 25, 4)]),
  (11, 107, 4, 1, [(11, 67, 4)]),
  (11, 111, 4, 1, [(11, 68, 4)]),
  (11, 115, 4, 1, [(3, 10, 4)]),
  (11, 119, 4, 0, [(4, 27, 4)]),
  (11, 122, 4, 2, [(11, 69, 4)]),
  (11, 126, 4, 0, [(11, 70, 4)]),
  (11, 129, 11, 2, []),
  (11, 134, 4, 4, [(5, 33, 4)]),
  (11, 138, 0, 2, [(0, 72, 0)]),
  (11, 142, 4, 1, [(11, 74, 4)]),
  (11, 161, 4, 0, [(11, 75, 4)]),
  (11, 165, 4, 1, [(0, 1, 289), (1, 4, 289), (2, 7, 289), (6, 37, 289), (7, 40, 289), (8, 43, 289), (9, 50, 4)]),
  (11, 170, 4, 2, [(8, 44, 4)]),
  (11, 173, 4, 1, [(4, 28, 4)]),
  (11, 177, 4, 2, [(4, 26, 4)]),
  (11, 180, 4, 1, [(11, 81, 4)]),
  (11, 189, 4, 1, [(5, 34, 4)]),
  (11, 192, 4, 2, [(11, 88, 4)]),
  (11, 196, 4, 1, [(10, 59, 4)]),
  (11, 200, 4, 3, [(11, 89, 4)]),
  (11, 204, 4, 2, [(10, 60, 4)]),
  (11, 208, 4, 3, [(11, 95, 4)]),
  (11, 214, 4, 4, [(11, 102, 4)]),
  (11, 218, 4, 1, [(5, 35, 4)]),
  (11, 221, 4, 1, [(11, 90, 4)]),
  (11, 224, 4, 2, [(11, 91, 4)]),
  (11, 227, 4, 3, [(11, 107, 4)]),
  (11, 232, 0, 3, [(0, 118, 0)]),
  (11, 236, 4, 2, [(11, 122, 4)]),
  (11, 239, 4, 2, [(0, 2, 289), (1, 38, 289), (2, 52, 289), (6, 38, 289), (7, 52, 289), (8, 52, 289), (9, 52, 4)]),
  (11, 243, 4, 2, [(0, 41, 289), (1, 53, 289), (2, 53, 289), (6, 53, 289), (7, 41, 289), (8, 45, 289), (9, 53, 4)]),
  (11, 246, 4, 2, [(0, 54, 289), (1, 5, 289), (2, 8, 289), (6, 54, 289), (7, 54, 289), (8, 8, 289), (9, 54, 4)]),
  (11, 249, 0, 2, [(0, 128, 0)]),
  (11, 253, 4, 0, [(0, 55, 289), (1, 55, 289), (2, 55, 289), (6, 55, 289), (7, 55, 289), (8, 46, 289), (9, 55, 4)]),
  (11, 256, 4, 0, [(4, 29, 4)]),
  (11, 261, 4, 0, [(4, 30, 4)]),
  (11, 264, 4, 0, [(0, 56, 289), (1, 56, 289), (2, 56, 289), (6, 56, 289), (7, 56, 289), (8, 47, 289), (9, 56, 4)]),
  (11, 265, 4, 1, [(5, 32, 4)]),
  (11, 270, 1, 2, [(0, 36, 0)]),
  (11, 275, 1, 2, [(0, 39, 0)]),
  (11, 278, 1, 2, [(0, 6, 0)]),
  (11, 281, 1, 2, [(0, 3, 0)]),
  (11, 284, 1, 2, [(0, 0, 0)]),
  (11, 285, 1, 2, [(0, 42, 0)]),
  (11, 286, 1, 2, [(0, 48, 0)]),
  (11, 287, 4, 2, [(10, 58, 4)]),
  (11, 289, 10, 2, []),
  (11, 298, 4, 1, [(10, 61, 4)]),
  (11, 301, 4, 4, [(11, 96, 4)]),
  (11, 305, 4, 4, [(11, 98, 4)]),
  (11, 308, 4, 5, [(11, 99, 4)]),
  (11, 312, 4, 1, [(10, 62, 4)]),
  (11, 316, 4, 3, [(11, 97, 4)]),
  (12, 3, 7, 0, []),
  (12, 41, 0, 3, [(0, 134, 0)]),
  (12, 55, 4, 0, [(12, 137, 4)]),
  (12, 59, 6, 0, [(0, 224, 0)]),
  (12, 64, 6, 1, [(0, 226, 0)]),
  (12, 68, 4, 1, [(12, 140, 4)]),
  (12, 78, 4, 0, [(12, 145, 4)]),
  (12, 81, 4, 1, [(12, 146, 4)]),
  (12, 84, 4, 0, [(12, 143, 4)]),
  (12, 89, 4, 1, [(12, 147, 4)]),
  (12, 95, 4, 0, [(12, 141, 4)]),
  (12, 98, 4, 0, [(12, 144, 4)]),
  (12, 101, 4, 1, [(12, 139, 4)]),
  (12, 107, 4, 2, [(12, 138, 4)]),
  (12, 115, 4, 2, [(12, 142, 4)]),
  (12, 120, 4, 0, [(12, 136, 4)]),
  (12, 123, 4, 0, [(12, 148, 4)]),
  (12, 126, 4, 2, [(12, 156, 4)]),
  (12, 130, 0, 1, [(0, 157, 0)]),
  (12, 134, 4, 2, [(12, 155, 4)]),
  (12, 137, 4, 2, [(12, 154, 4)]),
  (12, 140, 4, 2, [(12, 159, 4)]),
  (12, 143, 4, 2, [(12, 153, 4)]),
  (12, 146, 4, 2, [(12, 158, 4)]),
  (12, 149, 4, 2, [(12, 160, 4)]),
  (12, 152, 4, 1, [(12, 151, 4)]),
  (12, 156, 4, 2, [(12, 152, 4)]),
  (12, 159, 4, 1, [(12, 165, 4)]),
  (12, 171, 4, 0, [(12, 178, 4)]),
  (12, 174, 4, 1, [(12, 177, 4)]),
  (12, 177, 4, 1, [(12, 179, 4)]),
  (12, 180, 4, 1, [(12, 174, 4)]),
  (12, 183, 4, 2, [(12, 175, 4)]),
  (12, 187, 4, 2, [(12, 173, 4)]),
  (12, 190, 4, 2, [(12, 176, 4)]),
  (12, 193, 4, 2, [(12, 182, 4)]),
  (12, 202, 4, 6, [(12, 185, 4)]),
  (12, 206, 4, 3, [(12, 186, 4)]),
  (12, 210, 4, 3, [(12, 184, 4)]),
  (12, 214, 4, 3, [(12, 189, 4)]),
  (12, 221, 0, 3, [(0, 204, 0)]),
  (12, 228, 4, 1, [(12, 213, 4)]),
  (12, 237, 0, 2, [(0, 212, 0)]),
  (12, 241, 4, 1, [(12, 214, 4)]),
  (12, 244, 4, 1, [(12, 211, 4)]),
  (12, 250, 4, 1, [(12, 216, 4)]),
  (12, 253, 4, 1, [(12, 215, 4)]),
  (12, 256, 4, 1, [(12, 218, 4)]),
  (12, 259, 4, 1, [(12, 217, 4)]),
  (13, 9, 1, 0, [(0, 63, 0)]),
  (13, 12, 1, 0, [(0, 132, 0)]),
  (13, 13, 4, 1, [(11, 64, 4)]),
  (13, 17, 4, 1, [(12, 133, 4)]),
  (13, 18, 4, 0, [(11, 66, 4)]),
  (13, 22, 4, 0, [(12, 135, 4)]),
  (13, 23, 4, 4, [(11, 71, 4)]),
  (13, 27, 4, 4, [(12, 149, 4)]),
  (13, 28, 4, 2, [(11, 73, 4)]),
  (13, 32, 4, 2, [(12, 150, 4)]),
  (13, 33, 4, 2, [(11, 76, 4)]),
  (13, 36, 4, 2, [(12, 161, 4)]),
  (13, 37, 4, 3, [(11, 77, 4)]),
  (13, 41, 4, 3, [(12, 162, 4)]),
  (13, 42, 4, 2, [(11, 78, 4)]),
  (13, 45, 4, 2, [(12, 163, 4)]),
  (13, 46, 4, 2, [(11, 79, 4)]),
  (13, 49, 4, 2, [(12, 164, 4)]),
  (13, 50, 4, 3, [(11, 80, 4)]),
  (13, 53, 4, 3, [(12, 166, 4)]),
  (13, 54, 4, 1, [(11, 82, 4)]),
  (13, 57, 4, 1, [(12, 167, 4)]),
  (13, 58, 4, 1, [(11, 83, 4)]),
  (13, 61, 4, 1, [(12, 168, 4)]),
  (13, 62, 4, 1, [(11, 84, 4)]),
  (13, 65, 4, 1, [(12, 169, 4)]),
  (13, 66, 4, 2, [(11, 85, 4)]),
  (13, 69, 4, 2, [(12, 170, 4)]),
  (13, 70, 4, 2, [(11, 86, 4)]),
  (13, 73, 4, 2, [(12, 171, 4)]),
  (13, 74, 4, 2, [(11, 87, 4)]),
  (13, 77, 4, 2, [(12, 172, 4)]),
  (13, 78, 4, 2, [(11, 92, 4)]),
  (13, 81, 4, 2, [(12, 180, 4)]),
  (13, 82, 4, 2, [(11, 93, 4)]),
  (13, 85, 4, 2, [(12, 181, 4)]),
  (13, 86, 4, 2, [(11, 94, 4)]),
  (13, 89, 4, 2, [(12, 183, 4)]),
  (13, 90, 4, 2, [(11, 100, 4)]),
  (13, 93, 4, 2, [(12, 187, 4)]),
  (13, 94, 4, 3, [(11, 101, 4)]),
  (13, 97, 4, 3, [(12, 188, 4)]),
  (13, 98, 4, 1, [(11, 103, 4)]),
  (13, 101, 4, 1, [(12, 190, 4)]),
  (13, 102, 4, 1, [(11, 104, 4)]),
  (13, 105, 4, 1, [(12, 191, 4)]),
  (13, 106, 4, 1, [(11, 105, 4)]),
  (13, 109, 4, 1, [(12, 192, 4)]),
  (13, 110, 4, 1, [(11, 106, 4)]),
  (13, 113, 4, 1, [(12, 193, 4)]),
  (13, 114, 4, 2, [(11, 108, 4)]),
  (13, 117, 4, 2, [(12, 194, 4)]),
  (13, 118, 4, 1, [(11, 109, 4)]),
  (13, 121, 4, 1, [(12, 195, 4)]),
  (13, 122, 4, 2, [(11, 110, 4)]),
  (13, 125, 4, 2, [(12, 196, 4)]),
  (13, 126, 4, 1, [(11, 111, 4)]),
  (13, 129, 4, 1, [(12, 197, 4)]),
  (13, 130, 4, 1, [(11, 112, 4)]),
  (13, 133, 4, 1, [(12, 198, 4)]),
  (13, 134, 4, 0, [(11, 113, 4)]),
  (13, 137, 4, 0, [(12, 199, 4)]),
  (13, 138, 4, 1, [(11, 114, 4)]),
  (13, 141, 4, 1, [(12, 200, 4)]),
  (13, 142, 4, 3, [(11, 115, 4)]),
  (13, 145, 4, 3, [(12, 201, 4)]),
  (13, 146, 4, 0, [(11, 116, 4)]),
  (13, 149, 4, 0, [(12, 202, 4)]),
  (13, 150, 4, 3, [(11, 117, 4)]),
  (13, 154, 4, 3, [(12, 203, 4)]),
  (13, 155, 4, 3, [(11, 119, 4)]),
  (13, 158, 4, 3, [(12, 205, 4)]),
  (13, 159, 4, 2, [(11, 120, 4)]),
  (13, 162, 4, 2, [(12, 206, 4)]),
  (13, 163, 4, 2, [(11, 121, 4)]),
  (13, 166, 4, 2, [(12, 207, 4)]),
  (13, 167, 4, 3, [(11, 123, 4)]),
  (13, 170, 4, 3, [(12, 208, 4)]),
  (13, 171, 4, 0, [(11, 124, 4)]),
  (13, 174, 4, 0, [(12, 209, 4)]),
  (13, 175, 4, 3, [(11, 125, 4)]),
  (13, 178, 4, 3, [(12, 210, 4)]),
  (13, 179, 4, 1, [(11, 126, 4)]),
  (13, 182, 4, 1, [(12, 219, 4)]),
  (13, 183, 4, 2, [(11, 127, 4)]),
  (13, 186, 4, 2, [(12, 220, 4)]),
  (13, 187, 4, 0, [(11, 129, 4)]),
  (13, 190, 4, 0, [(12, 221, 4)]),
  (13, 191, 4, 0, [(11, 130, 4)]),
  (13, 194, 4, 0, [(12, 222, 4)]),
  (13, 195, 4, 1, [(11, 131, 4)]),
  (13, 198, 4, 1, [(12, 223, 4)]),
  (15, 335, 6, 0, [(0, 225, 0)]),
  (15, 492, 6, 0, [(0, 227, 0)]),
  (15, 495, 0, 2, [(0, 231, 0)]),
  (15, 505, 6, 0, [(0, 224, 0)]),
  (15, 633, 6, 2, [(0, 230, 0)]),
  (15, 637, 0, 4, [(0, 232, 0)]),
  (15, 1059, 0, 3, [(0, 235, 0)]),
  (16, 9, 0, 2, [(0, 228, 0)]),
  (16, 38, 11, 2, []),
  (16, 88, 0, 1, [(0, 233, 0)]),
  (16, 92, 10, 2, []),
  (16, 95, 0, 4, [(0, 234, 0)])]
def ix_ca (o i : Nat) : Option (Nat × Nat × List (Nat × Nat × Nat)) := (ix_cas.find? (fun e => e.1 == o && e.2.1 == i)).map (fun e => e.2.2)
/-- words that the tables keep, but not by every word of a caller: links of nest mates, casts, declared methods -/
def ix_nws : List Cond := [
  .fieldLinkNest "TreeToTree$Park" 31 "TreeToTree$Rows" "size" "I" "TreeToTree",
  .fieldLinkNest "TreeToTree" 103 "TreeToTree$Rows" "size" "I" "TreeToTree",
  .methodLinkNest "TreeToTree" 60 ⟨"TreeToTree$Park", "<init>", "()V"⟩ "TreeToTree",
  .fieldLinkNest "TreeToTree" 183 "TreeToTree$Park" "soak" "I" "TreeToTree",
  .fieldLinkNest "TreeToTree" 186 "TreeToTree$Park" "waitCost" "I" "TreeToTree",
  .fieldLinkNest "TreeToTree$Broad" 33 "TreeToTree$Spot" "number" "I" "TreeToTree",
  .fieldLinkNest "TreeToTree$Tree" 38 "TreeToTree$Spot" "number" "I" "TreeToTree",
  .fieldLinkNest "TreeToTree" 149 "TreeToTree$Spot" "kind" "I" "TreeToTree",
  .fieldLinkNest "TreeToTree$Hollow" 13 "TreeToTree$Spot" "v" "I" "TreeToTree",
  .fieldLinkNest "TreeToTree$Late" 13 "TreeToTree$Spot" "v" "I" "TreeToTree",
  .fieldLinkNest "TreeToTree$Thin" 26 "TreeToTree$Spot" "v" "I" "TreeToTree",
  .fieldLinkNest "TreeToTree$Told" 40 "TreeToTree$Spot" "v" "I" "TreeToTree",
  .fieldLinkNest "TreeToTree" 152 "TreeToTree$Spot" "v" "I" "TreeToTree",
  .fieldLinkNest "TreeToTree$Tree" 45 "TreeToTree$Spot" "v" "I" "TreeToTree",
  .fieldLinkNest "TreeToTree" 158 "TreeToTree$Spot" "place" "I" "TreeToTree",
  .fieldLinkNest "TreeToTree$Trip" 46 "TreeToTree$Spot" "place" "I" "TreeToTree",
  .fieldLinkNest "TreeToTree" 292 "TreeToTree$Trip" "minute" "I" "TreeToTree",
  .fieldLinkNest "TreeToTree" 295 "TreeToTree$Trip" "got" "I" "TreeToTree",
  .declares ⟨"TreeToTree$Tree", "isAboveHolds", "(I)Z"⟩,
  .declares ⟨"TreeToTree$Tree", "actHolds", "(LTreeToTree$Rows;I)I"⟩,
  .declares ⟨"TreeToTree$Tree", "actDrips", "(LTreeToTree$Rows;I)I"⟩,
  .declares ⟨"TreeToTree$Tree", "actTells", "(LTreeToTree$Rows;I)I"⟩,
  .declares ⟨"TreeToTree$Thick", "actHolds", "(LTreeToTree$Rows;I)I"⟩,
  .declares ⟨"TreeToTree$Tree", "keep", "()V"⟩,
  .declares ⟨"TreeToTree$Tree", "bringBack", "()V"⟩,
  .castable "TreeToTree$Hollow" "TreeToTree$Thick",
  .castable "TreeToTree$Broad" "TreeToTree$Thin",
  .castable "TreeToTree$Told" "TreeToTree$Late",
  .castable "TreeToTree$Thick" "TreeToTree$Tree",
  .castable "TreeToTree$Thin" "TreeToTree$Tree",
  .castable "TreeToTree$Late" "TreeToTree$Tree",
  .castable "TreeToTree$Hollow" "TreeToTree$Tree",
  .castable "TreeToTree$Broad" "TreeToTree$Tree",
  .castable "TreeToTree$Told" "TreeToTree$Tree"]
/-- casts that fail: an object of the first class, the second class -/
def ix_ncs : List (String × String) := [("TreeToTree$Hollow", "TreeToTree$Broad"), ("TreeToTree$Late", "TreeToTree$Broad"), ("TreeToTree$Thick", "TreeToTree$Broad"), ("TreeToTree$Thin", "TreeToTree$Broad"), ("TreeToTree$Told", "TreeToTree$Broad"), ("TreeToTree$Tree", "TreeToTree$Broad"), ("TreeToTree$Broad", "TreeToTree$Hollow"), ("TreeToTree$Late", "TreeToTree$Hollow"), ("TreeToTree$Thick", "TreeToTree$Hollow"), ("TreeToTree$Thin", "TreeToTree$Hollow"), ("TreeToTree$Told", "TreeToTree$Hollow"), ("TreeToTree$Tree", "TreeToTree$Hollow"), ("TreeToTree$Broad", "TreeToTree$Late"), ("TreeToTree$Hollow", "TreeToTree$Late"), ("TreeToTree$Thick", "TreeToTree$Late"), ("TreeToTree$Thin", "TreeToTree$Late"), ("TreeToTree$Tree", "TreeToTree$Late"), ("TreeToTree$Broad", "TreeToTree$Thick"), ("TreeToTree$Late", "TreeToTree$Thick"), ("TreeToTree$Thin", "TreeToTree$Thick"), ("TreeToTree$Told", "TreeToTree$Thick"), ("TreeToTree$Tree", "TreeToTree$Thick"), ("TreeToTree$Hollow", "TreeToTree$Thin"), ("TreeToTree$Late", "TreeToTree$Thin"), ("TreeToTree$Thick", "TreeToTree$Thin"), ("TreeToTree$Told", "TreeToTree$Thin"), ("TreeToTree$Tree", "TreeToTree$Thin"), ("TreeToTree$Broad", "TreeToTree$Told"), ("TreeToTree$Hollow", "TreeToTree$Told"), ("TreeToTree$Late", "TreeToTree$Told"), ("TreeToTree$Thick", "TreeToTree$Told"), ("TreeToTree$Thin", "TreeToTree$Told"), ("TreeToTree$Tree", "TreeToTree$Told")]
/-- the texts: class, entry, text, place -/
def ix_lits : List (String × Nat × String × Nat) := [("TreeToTree$Park", 63, "soak ", 0), ("TreeToTree$Park", 72, "wait ", 1), ("TreeToTree$Park", 74, "rain ", 2), ("TreeToTree$Park", 76, "less ", 3), ("TreeToTree$Park", 107, "mhtkv", 4), ("TreeToTree$Park", 113, "<=>", 5), ("TreeToTreeModel", 87, "mhtkv", 4), ("TreeToTreeModel", 93, "<=>", 5), ("TreeToTreeModel", 105, "soak ", 0), ("TreeToTreeModel", 111, "wait ", 1), ("TreeToTreeModel", 113, "rain ", 2), ("TreeToTreeModel", 118, "less ", 3)]
