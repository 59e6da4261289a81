def T_V : u_T := fun k => match k with
  | 0 => ("ValueTrees", "types", "Ljava/util/ArrayList;", true)
  | _ => ("ValueTrees", "registers", "[LValueTrees$Value;", true)
def ty_V : Nat → FieldType := fun k => match k with
  | 0 => .object "java/util/ArrayList"
  | _ => .array (.object "ValueTrees$Value")
theorem nm_V : ∀ a, a < 2 → ∀ b, b < 2 → a ≠ b → (T_V a).2.1 ≠ (T_V b).2.1 := by decide +kernel
theorem tyk_V : ∀ k, k < 2 → parseFieldDescriptor (T_V k).2.2.1 = some (ty_V k) := by decide +kernel
theorem in_V : ∀ w ∈ u_ws "ValueTrees" T_V 2, w ∈ gt := List.forall_mem_cons.mpr ⟨q147, List.forall_mem_cons.mpr ⟨q149, fun _ h => absurd h List.not_mem_nil⟩⟩
def T_Type : u_T := fun k => match k with
  | 0 => ("ValueTrees$Type", "word", "I", true)
  | 1 => ("ValueTrees$Type", "left", "I", true)
  | 2 => ("ValueTrees$Type", "right", "I", true)
  | 3 => ("ValueTrees$Type", "parts", "I", true)
  | _ => ("ValueTrees$Type", "marks", "I", true)
def ty_Type : Nat → FieldType := fun k => match k with
  | 0 => .int
  | 1 => .int
  | 2 => .int
  | 3 => .int
  | _ => .int
theorem nm_Type : ∀ a, a < 5 → ∀ b, b < 5 → a ≠ b → (T_Type a).2.1 ≠ (T_Type b).2.1 := by decide +kernel
theorem tyk_Type : ∀ k, k < 5 → parseFieldDescriptor (T_Type k).2.2.1 = some (ty_Type k) := by decide +kernel
theorem in_Type : ∀ w ∈ u_ws "ValueTrees$Type" T_Type 5, w ∈ gt := List.forall_mem_cons.mpr ⟨q74, List.forall_mem_cons.mpr ⟨q76, List.forall_mem_cons.mpr ⟨q78, List.forall_mem_cons.mpr ⟨q80, List.forall_mem_cons.mpr ⟨q82, fun _ h => absurd h List.not_mem_nil⟩⟩⟩⟩⟩
def T_Whole : u_T := fun k => match k with
  | 0 => ("ValueTrees$Value", "type", "I", true)
  | 1 => ("ValueTrees$Value", "length", "I", true)
  | 2 => ("ValueTrees$Whole", "below", "Z", true)
  | 3 => ("ValueTrees$Whole", "bits", "I", true)
  | _ => ("ValueTrees$Whole", "digits", "[I", true)
def ty_Whole : Nat → FieldType := fun k => match k with
  | 0 => .int
  | 1 => .int
  | 2 => .boolean
  | 3 => .int
  | _ => .array .int
theorem nm_Whole : ∀ a, a < 5 → ∀ b, b < 5 → a ≠ b → (T_Whole a).2.1 ≠ (T_Whole b).2.1 := by decide +kernel
theorem tyk_Whole : ∀ k, k < 5 → parseFieldDescriptor (T_Whole k).2.2.1 = some (ty_Whole k) := by decide +kernel
theorem in_Whole : ∀ w ∈ u_ws "ValueTrees$Whole" T_Whole 5, w ∈ gt := List.forall_mem_cons.mpr ⟨q255, List.forall_mem_cons.mpr ⟨q257, List.forall_mem_cons.mpr ⟨q249, List.forall_mem_cons.mpr ⟨q251, List.forall_mem_cons.mpr ⟨q253, fun _ h => absurd h List.not_mem_nil⟩⟩⟩⟩⟩
def T_Row : u_T := fun k => match k with
  | 0 => ("ValueTrees$Value", "type", "I", true)
  | 1 => ("ValueTrees$Value", "length", "I", true)
  | 2 => ("ValueTrees$Row", "letters", "J", true)
  | _ => ("ValueTrees$Row", "count", "I", true)
def ty_Row : Nat → FieldType := fun k => match k with
  | 0 => .int
  | 1 => .int
  | 2 => .long
  | _ => .int
theorem nm_Row : ∀ a, a < 4 → ∀ b, b < 4 → a ≠ b → (T_Row a).2.1 ≠ (T_Row b).2.1 := by decide +kernel
theorem tyk_Row : ∀ k, k < 4 → parseFieldDescriptor (T_Row k).2.2.1 = some (ty_Row k) := by decide +kernel
theorem in_Row : ∀ w ∈ u_ws "ValueTrees$Row" T_Row 4, w ∈ gt := List.forall_mem_cons.mpr ⟨q296, List.forall_mem_cons.mpr ⟨q297, List.forall_mem_cons.mpr ⟨q292, List.forall_mem_cons.mpr ⟨q294, fun _ h => absurd h List.not_mem_nil⟩⟩⟩⟩
def T_Choice : u_T := fun k => match k with
  | 0 => ("ValueTrees$Value", "type", "I", true)
  | 1 => ("ValueTrees$Value", "length", "I", true)
  | 2 => ("ValueTrees$Choice", "side", "I", true)
  | _ => ("ValueTrees$Choice", "inside", "LValueTrees$Value;", true)
def ty_Choice : Nat → FieldType := fun k => match k with
  | 0 => .int
  | 1 => .int
  | 2 => .int
  | _ => .object "ValueTrees$Value"
theorem nm_Choice : ∀ a, a < 4 → ∀ b, b < 4 → a ≠ b → (T_Choice a).2.1 ≠ (T_Choice b).2.1 := by decide +kernel
theorem tyk_Choice : ∀ k, k < 4 → parseFieldDescriptor (T_Choice k).2.2.1 = some (ty_Choice k) := by decide +kernel
theorem in_Choice : ∀ w ∈ u_ws "ValueTrees$Choice" T_Choice 4, w ∈ gt := List.forall_mem_cons.mpr ⟨q317, List.forall_mem_cons.mpr ⟨q318, List.forall_mem_cons.mpr ⟨q313, List.forall_mem_cons.mpr ⟨q315, fun _ h => absurd h List.not_mem_nil⟩⟩⟩⟩
def T_Couple : u_T := fun k => match k with
  | 0 => ("ValueTrees$Value", "type", "I", true)
  | 1 => ("ValueTrees$Value", "length", "I", true)
  | 2 => ("ValueTrees$Couple", "first", "LValueTrees$Value;", true)
  | _ => ("ValueTrees$Couple", "second", "LValueTrees$Value;", true)
def ty_Couple : Nat → FieldType := fun k => match k with
  | 0 => .int
  | 1 => .int
  | 2 => .object "ValueTrees$Value"
  | _ => .object "ValueTrees$Value"
theorem nm_Couple : ∀ a, a < 4 → ∀ b, b < 4 → a ≠ b → (T_Couple a).2.1 ≠ (T_Couple b).2.1 := by decide +kernel
theorem tyk_Couple : ∀ k, k < 4 → parseFieldDescriptor (T_Couple k).2.2.1 = some (ty_Couple k) := by decide +kernel
theorem in_Couple : ∀ w ∈ u_ws "ValueTrees$Couple" T_Couple 4, w ∈ gt := List.forall_mem_cons.mpr ⟨q402, List.forall_mem_cons.mpr ⟨q403, List.forall_mem_cons.mpr ⟨q398, List.forall_mem_cons.mpr ⟨q400, fun _ h => absurd h List.not_mem_nil⟩⟩⟩⟩
def T_Chain : u_T := fun k => match k with
  | 0 => ("ValueTrees$Value", "type", "I", true)
  | 1 => ("ValueTrees$Value", "length", "I", true)
  | 2 => ("ValueTrees$Chain", "first", "LValueTrees$Value;", true)
  | 3 => ("ValueTrees$Chain", "rest", "LValueTrees$Chain;", true)
  | _ => ("ValueTrees$Chain", "count", "I", true)
def ty_Chain : Nat → FieldType := fun k => match k with
  | 0 => .int
  | 1 => .int
  | 2 => .object "ValueTrees$Value"
  | 3 => .object "ValueTrees$Chain"
  | _ => .int
theorem nm_Chain : ∀ a, a < 5 → ∀ b, b < 5 → a ≠ b → (T_Chain a).2.1 ≠ (T_Chain b).2.1 := by decide +kernel
theorem tyk_Chain : ∀ k, k < 5 → parseFieldDescriptor (T_Chain k).2.2.1 = some (ty_Chain k) := by decide +kernel
theorem in_Chain : ∀ w ∈ u_ws "ValueTrees$Chain" T_Chain 5, w ∈ gt := List.forall_mem_cons.mpr ⟨q346, List.forall_mem_cons.mpr ⟨q347, List.forall_mem_cons.mpr ⟨q340, List.forall_mem_cons.mpr ⟨q342, List.forall_mem_cons.mpr ⟨q344, fun _ h => absurd h List.not_mem_nil⟩⟩⟩⟩⟩
def T_Tree : u_T := fun k => match k with
  | 0 => ("ValueTrees$Value", "type", "I", true)
  | 1 => ("ValueTrees$Value", "length", "I", true)
  | _ => ("ValueTrees$Tree", "entries", "[LValueTrees$Entry;", true)
def ty_Tree : Nat → FieldType := fun k => match k with
  | 0 => .int
  | 1 => .int
  | _ => .array (.object "ValueTrees$Entry")
theorem nm_Tree : ∀ a, a < 3 → ∀ b, b < 3 → a ≠ b → (T_Tree a).2.1 ≠ (T_Tree b).2.1 := by decide +kernel
theorem tyk_Tree : ∀ k, k < 3 → parseFieldDescriptor (T_Tree k).2.2.1 = some (ty_Tree k) := by decide +kernel
theorem in_Tree : ∀ w ∈ u_ws "ValueTrees$Tree" T_Tree 3, w ∈ gt := List.forall_mem_cons.mpr ⟨q361, List.forall_mem_cons.mpr ⟨q362, List.forall_mem_cons.mpr ⟨q359, fun _ h => absurd h List.not_mem_nil⟩⟩⟩
def T_Entry : u_T := fun k => match k with
  | 0 => ("ValueTrees$Entry", "key", "LValueTrees$Value;", true)
  | 1 => ("ValueTrees$Entry", "value", "LValueTrees$Value;", true)
  | _ => ("ValueTrees$Entry", "length", "I", true)
def ty_Entry : Nat → FieldType := fun k => match k with
  | 0 => .object "ValueTrees$Value"
  | 1 => .object "ValueTrees$Value"
  | _ => .int
theorem nm_Entry : ∀ a, a < 3 → ∀ b, b < 3 → a ≠ b → (T_Entry a).2.1 ≠ (T_Entry b).2.1 := by decide +kernel
theorem tyk_Entry : ∀ k, k < 3 → parseFieldDescriptor (T_Entry k).2.2.1 = some (ty_Entry k) := by decide +kernel
theorem in_Entry : ∀ w ∈ u_ws "ValueTrees$Entry" T_Entry 3, w ∈ gt := List.forall_mem_cons.mpr ⟨q431, List.forall_mem_cons.mpr ⟨q433, List.forall_mem_cons.mpr ⟨q435, fun _ h => absurd h List.not_mem_nil⟩⟩⟩
def T_AL : u_T := fun k => match k with
  | 0 => ("java/util/AbstractList", "modCount", "I", false)
  | 1 => ("java/util/ArrayList", "elementData", "[Ljava/lang/Object;", false)
  | _ => ("java/util/ArrayList", "size", "I", false)
def ty_AL : Nat → FieldType := fun k => match k with
  | 0 => .int
  | 1 => .array (.object "java/lang/Object")
  | _ => .int
theorem nm_AL : ∀ a, a < 3 → ∀ b, b < 3 → a ≠ b → (T_AL a).2.1 ≠ (T_AL b).2.1 := by decide +kernel
theorem tyk_AL : ∀ k, k < 3 → parseFieldDescriptor (T_AL k).2.2.1 = some (ty_AL k) := by decide +kernel
theorem in_AL : ∀ w ∈ u_ws "java/util/ArrayList" T_AL 3, w ∈ gt := List.forall_mem_cons.mpr ⟨q52, List.forall_mem_cons.mpr ⟨q48, List.forall_mem_cons.mpr ⟨q50, fun _ h => absurd h List.not_mem_nil⟩⟩⟩
def T_M : u_T := fun k => match k with
  | 0 => ("ValueTreesModel", "words", "[I", true)
  | 1 => ("ValueTreesModel", "lefts", "[I", true)
  | 2 => ("ValueTreesModel", "rights", "[I", true)
  | 3 => ("ValueTreesModel", "typeCount", "I", false)
  | 4 => ("ValueTreesModel", "types", "[I", true)
  | 5 => ("ValueTreesModel", "forms", "[B", true)
  | 6 => ("ValueTreesModel", "sizes", "[I", true)
  | 7 => ("ValueTreesModel", "work", "[B", true)
  | 8 => ("ValueTreesModel", "workSize", "I", false)
  | 9 => ("ValueTreesModel", "digits", "[I", true)
  | 10 => ("ValueTreesModel", "digitCount", "I", false)
  | _ => ("ValueTreesModel", "shifted", "[I", true)
def ty_M : Nat → FieldType := fun k => match k with
  | 0 => .array .int
  | 1 => .array .int
  | 2 => .array .int
  | 3 => .int
  | 4 => .array .int
  | 5 => .array .byte
  | 6 => .array .int
  | 7 => .array .byte
  | 8 => .int
  | 9 => .array .int
  | 10 => .int
  | _ => .array .int
theorem nm_M : ∀ a, a < 12 → ∀ b, b < 12 → a ≠ b → (T_M a).2.1 ≠ (T_M b).2.1 := by decide +kernel
theorem tyk_M : ∀ k, k < 12 → parseFieldDescriptor (T_M k).2.2.1 = some (ty_M k) := by decide +kernel
theorem in_M : ∀ w ∈ u_ws "ValueTreesModel" T_M 12, w ∈ gt := List.forall_mem_cons.mpr ⟨q551, List.forall_mem_cons.mpr ⟨q553, List.forall_mem_cons.mpr ⟨q555, List.forall_mem_cons.mpr ⟨q557, List.forall_mem_cons.mpr ⟨q559, List.forall_mem_cons.mpr ⟨q561, List.forall_mem_cons.mpr ⟨q563, List.forall_mem_cons.mpr ⟨q565, List.forall_mem_cons.mpr ⟨q567, List.forall_mem_cons.mpr ⟨q569, List.forall_mem_cons.mpr ⟨q571, List.forall_mem_cons.mpr ⟨q573, fun _ h => absurd h List.not_mem_nil⟩⟩⟩⟩⟩⟩⟩⟩⟩⟩⟩⟩
/-- the classes whose objects the worlds hold -/
abbrev cls : List vw_C := [("ValueTrees", T_V, 2), ("ValueTrees$Type", T_Type, 5), ("ValueTrees$Whole", T_Whole, 5), ("ValueTrees$Row", T_Row, 4), ("ValueTrees$Choice", T_Choice, 4), ("ValueTrees$Couple", T_Couple, 4), ("ValueTrees$Chain", T_Chain, 5), ("ValueTrees$Tree", T_Tree, 3), ("ValueTrees$Entry", T_Entry, 3), ("java/util/ArrayList", T_AL, 3), ("ValueTreesModel", T_M, 12)]
