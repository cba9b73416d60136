/-! classes, fields, methods, by program out of the Statement -/
def R_B : String := "BitLoom"
def T_B : u_T := fun k => match k with
  | 0 => ("BitLoom", "fields", "LBitLoom$Fields;", true)
  | 1 => ("BitLoom", "words", "LBitLoom$Words;", true)
  | 2 => ("BitLoom", "text", "LBitLoom$Text;", true)
  | 3 => ("BitLoom", "statement", "LBitLoom$Statement;", true)
  | 4 => ("BitLoom", "list", "[I", true)
  | 5 => ("BitLoom", "listLength", "I", false)
  | _ => ("BitLoom", "refusals", "I", false)
def ty_B : Nat → FieldType := fun k => match k with
  | 0 => (.object "BitLoom$Fields")
  | 1 => (.object "BitLoom$Words")
  | 2 => (.object "BitLoom$Text")
  | 3 => (.object "BitLoom$Statement")
  | 4 => (.array .int)
  | 5 => .int
  | _ => .int
theorem nm_B : ∀ a, a < 7 → ∀ b, b < 7 → a ≠ b → (T_B a).2.1 ≠ (T_B b).2.1 := by decide +kernel
theorem tk_B : ∀ k, k < 7 → parseFieldDescriptor (T_B k).2.2.1 = some (ty_B k) := by decide +kernel
def R_F : String := "BitLoom$Fields"
def T_F : u_T := fun k => match k with
  | 0 => ("BitLoom$Fields", "names", "[C", true)
  | 1 => ("BitLoom$Fields", "firsts", "[I", true)
  | 2 => ("BitLoom$Fields", "widths", "[I", true)
  | 3 => ("BitLoom$Fields", "signs", "[Z", true)
  | 4 => ("BitLoom$Fields", "count", "I", false)
  | _ => ("BitLoom$Fields", "covered", "I", false)
def ty_F : Nat → FieldType := fun k => match k with
  | 0 => (.array .char)
  | 1 => (.array .int)
  | 2 => (.array .int)
  | 3 => (.array .boolean)
  | 4 => .int
  | _ => .int
theorem nm_F : ∀ a, a < 6 → ∀ b, b < 6 → a ≠ b → (T_F a).2.1 ≠ (T_F b).2.1 := by decide +kernel
theorem tk_F : ∀ k, k < 6 → parseFieldDescriptor (T_F k).2.2.1 = some (ty_F k) := by decide +kernel
def R_W : String := "BitLoom$Words"
def T_W : u_T := fun k => match k with
  | 0 => ("BitLoom$Words", "bits", "[I", true)
  | 1 => ("BitLoom$Words", "inUse", "I", false)
  | _ => ("BitLoom$Words", "responding", "I", false)
def ty_W : Nat → FieldType := fun k => match k with
  | 0 => (.array .int)
  | 1 => .int
  | _ => .int
theorem nm_W : ∀ a, a < 3 → ∀ b, b < 3 → a ≠ b → (T_W a).2.1 ≠ (T_W b).2.1 := by decide +kernel
theorem tk_W : ∀ k, k < 3 → parseFieldDescriptor (T_W k).2.2.1 = some (ty_W k) := by decide +kernel
def R_T : String := "BitLoom$Text"
def T_T : u_T := fun k => match k with
  | 0 => ("BitLoom$Text", "characters", "[C", true)
  | _ => ("BitLoom$Text", "length", "I", false)
def ty_T : Nat → FieldType := fun k => match k with
  | 0 => (.array .char)
  | _ => .int
theorem nm_T : ∀ a, a < 2 → ∀ b, b < 2 → a ≠ b → (T_T a).2.1 ≠ (T_T b).2.1 := by decide +kernel
theorem tk_T : ∀ k, k < 2 → parseFieldDescriptor (T_T k).2.2.1 = some (ty_T k) := by decide +kernel
def R_K : String := "BitLoom$Tokens"
def T_K : u_T := fun k => match k with
  | 0 => ("BitLoom$Tokens", "text", "LBitLoom$Text;", true)
  | 1 => ("BitLoom$Tokens", "kinds", "[C", true)
  | 2 => ("BitLoom$Tokens", "starts", "[I", true)
  | 3 => ("BitLoom$Tokens", "ends", "[I", true)
  | 4 => ("BitLoom$Tokens", "count", "I", false)
  | _ => ("BitLoom$Tokens", "at", "I", false)
def ty_K : Nat → FieldType := fun k => match k with
  | 0 => (.object "BitLoom$Text")
  | 1 => (.array .char)
  | 2 => (.array .int)
  | 3 => (.array .int)
  | 4 => .int
  | _ => .int
theorem nm_K : ∀ a, a < 6 → ∀ b, b < 6 → a ≠ b → (T_K a).2.1 ≠ (T_K b).2.1 := by decide +kernel
theorem tk_K : ∀ k, k < 6 → parseFieldDescriptor (T_K k).2.2.1 = some (ty_K k) := by decide +kernel
def R_O : String := "BitLoom$Operand"
def T_O : u_T := fun k => match k with
  | 0 => ("BitLoom$Operand", "fields", "LBitLoom$Fields;", true)
  | 1 => ("BitLoom$Operand", "field", "I", false)
  | _ => ("BitLoom$Operand", "number", "I", false)
def ty_O : Nat → FieldType := fun k => match k with
  | 0 => (.object "BitLoom$Fields")
  | 1 => .int
  | _ => .int
theorem nm_O : ∀ a, a < 3 → ∀ b, b < 3 → a ≠ b → (T_O a).2.1 ≠ (T_O b).2.1 := by decide +kernel
theorem tk_O : ∀ k, k < 3 → parseFieldDescriptor (T_O k).2.2.1 = some (ty_O k) := by decide +kernel
def R_P : String := "BitLoom$Pair"
def T_P : u_T := fun k => match k with
  | 0 => ("BitLoom$Pair", "left", "LBitLoom$Operand;", true)
  | 1 => ("BitLoom$Pair", "right", "LBitLoom$Operand;", true)
  | _ => ("BitLoom$Pair", "sign", "C", false)
def ty_P : Nat → FieldType := fun k => match k with
  | 0 => (.object "BitLoom$Operand")
  | 1 => (.object "BitLoom$Operand")
  | _ => .char
theorem nm_P : ∀ a, a < 3 → ∀ b, b < 3 → a ≠ b → (T_P a).2.1 ≠ (T_P b).2.1 := by decide +kernel
theorem tk_P : ∀ k, k < 3 → parseFieldDescriptor (T_P k).2.2.1 = some (ty_P k) := by decide +kernel
def R_C : String := "BitLoom$Change"
def T_C : u_T := fun k => match k with
  | 0 => ("BitLoom$Change", "fields", "LBitLoom$Fields;", true)
  | 1 => ("BitLoom$Change", "operands", "LBitLoom$Pair;", true)
  | _ => ("BitLoom$Change", "target", "I", false)
def ty_C : Nat → FieldType := fun k => match k with
  | 0 => (.object "BitLoom$Fields")
  | 1 => (.object "BitLoom$Pair")
  | _ => .int
theorem nm_C : ∀ a, a < 3 → ∀ b, b < 3 → a ≠ b → (T_C a).2.1 ≠ (T_C b).2.1 := by decide +kernel
theorem tk_C : ∀ k, k < 3 → parseFieldDescriptor (T_C k).2.2.1 = some (ty_C k) := by decide +kernel
def R_S : String := "BitLoom$Statement"
def T_S : u_T := fun k => match k with
  | 0 => ("BitLoom$Statement", "fields", "LBitLoom$Fields;", true)
  | 1 => ("BitLoom$Statement", "words", "LBitLoom$Words;", true)
  | 2 => ("BitLoom$Statement", "tokens", "LBitLoom$Tokens;", true)
  | 3 => ("BitLoom$Statement", "compared", "LBitLoom$Pair;", true)
  | 4 => ("BitLoom$Statement", "change", "LBitLoom$Change;", true)
  | 5 => ("BitLoom$Statement", "secondChange", "LBitLoom$Change;", true)
  | 6 => ("BitLoom$Statement", "hasSecondChange", "Z", false)
  | 7 => ("BitLoom$Statement", "action", "LBitLoom$Action;", false)
  | 8 => ("BitLoom$Statement", "subject", "I", false)
  | 9 => ("BitLoom$Statement", "taken", "I", false)
  | _ => ("BitLoom$Statement", "wrongAt", "I", false)
def ty_S : Nat → FieldType := fun k => match k with
  | 0 => (.object "BitLoom$Fields")
  | 1 => (.object "BitLoom$Words")
  | 2 => (.object "BitLoom$Tokens")
  | 3 => (.object "BitLoom$Pair")
  | 4 => (.object "BitLoom$Change")
  | 5 => (.object "BitLoom$Change")
  | 6 => .boolean
  | 7 => (.object "BitLoom$Action")
  | 8 => .int
  | 9 => .int
  | _ => .int
theorem nm_S : ∀ a, a < 11 → ∀ b, b < 11 → a ≠ b → (T_S a).2.1 ≠ (T_S b).2.1 := by decide +kernel
theorem tk_S : ∀ k, k < 11 → parseFieldDescriptor (T_S k).2.2.1 = some (ty_S k) := by decide +kernel
def R_M : String := "BitLoomModel"
def T_M : u_T := fun k => match k with
  | 0 => ("BitLoomModel", "code", "I", false)
  | 1 => ("BitLoomModel", "used", "[Z", true)
  | 2 => ("BitLoomModel", "bits", "[I", true)
  | 3 => ("BitLoomModel", "responds", "[Z", true)
  | 4 => ("BitLoomModel", "fields", "I", false)
  | 5 => ("BitLoomModel", "names", "[C", true)
  | 6 => ("BitLoomModel", "lows", "[I", true)
  | 7 => ("BitLoomModel", "widths", "[I", true)
  | 8 => ("BitLoomModel", "signs", "[Z", true)
  | 9 => ("BitLoomModel", "typed", "I", false)
  | 10 => ("BitLoomModel", "text", "[C", true)
  | 11 => ("BitLoomModel", "place", "I", false)
  | 12 => ("BitLoomModel", "refused", "I", false)
  | 13 => ("BitLoomModel", "many", "I", false)
  | 14 => ("BitLoomModel", "list", "[I", true)
  | 15 => ("BitLoomModel", "kind", "I", false)
  | 16 => ("BitLoomModel", "begin", "I", false)
  | 17 => ("BitLoomModel", "end", "I", false)
  | 18 => ("BitLoomModel", "amount", "I", false)
  | 19 => ("BitLoomModel", "letters", "J", false)
  | 20 => ("BitLoomModel", "length", "I", false)
  | 21 => ("BitLoomModel", "order", "[I", true)
  | 22 => ("BitLoomModel", "arg", "[I", true)
  | 23 => ("BitLoomModel", "open", "I", false)
  | 24 => ("BitLoomModel", "pile", "[I", true)
  | 25 => ("BitLoomModel", "nested", "I", false)
  | 26 => ("BitLoomModel", "relation", "I", false)
  | 27 => ("BitLoomModel", "action", "I", false)
  | 28 => ("BitLoomModel", "of", "I", false)
  | 29 => ("BitLoomModel", "changes", "I", false)
  | 30 => ("BitLoomModel", "target", "[I", true)
  | 31 => ("BitLoomModel", "oneField", "[I", true)
  | 32 => ("BitLoomModel", "oneNumber", "[I", true)
  | 33 => ("BitLoomModel", "how", "[I", true)
  | 34 => ("BitLoomModel", "twoField", "[I", true)
  | 35 => ("BitLoomModel", "twoNumber", "[I", true)
  | 36 => ("BitLoomModel", "high", "I", false)
  | _ => ("BitLoomModel", "stack", "[I", true)
def ty_M : Nat → FieldType := fun k => match k with
  | 0 => .int
  | 1 => (.array .boolean)
  | 2 => (.array .int)
  | 3 => (.array .boolean)
  | 4 => .int
  | 5 => (.array .char)
  | 6 => (.array .int)
  | 7 => (.array .int)
  | 8 => (.array .boolean)
  | 9 => .int
  | 10 => (.array .char)
  | 11 => .int
  | 12 => .int
  | 13 => .int
  | 14 => (.array .int)
  | 15 => .int
  | 16 => .int
  | 17 => .int
  | 18 => .int
  | 19 => .long
  | 20 => .int
  | 21 => (.array .int)
  | 22 => (.array .int)
  | 23 => .int
  | 24 => (.array .int)
  | 25 => .int
  | 26 => .int
  | 27 => .int
  | 28 => .int
  | 29 => .int
  | 30 => (.array .int)
  | 31 => (.array .int)
  | 32 => (.array .int)
  | 33 => (.array .int)
  | 34 => (.array .int)
  | 35 => (.array .int)
  | 36 => .int
  | _ => (.array .int)
theorem nm_M : ∀ a, a < 38 → ∀ b, b < 38 → a ≠ b → (T_M a).2.1 ≠ (T_M b).2.1 := by decide +kernel
theorem tk_M : ∀ k, k < 38 → parseFieldDescriptor (T_M k).2.2.1 = some (ty_M k) := by decide +kernel
def R_XA : String := "java/lang/IllegalArgumentException"
def T_XA : u_T := fun k => match k with
  | _ => ("", "", "", false)
def ty_XA : Nat → FieldType := fun k => match k with
  | _ => .int
theorem nm_XA : ∀ a, a < 0 → ∀ b, b < 0 → a ≠ b → (T_XA a).2.1 ≠ (T_XA b).2.1 := by decide +kernel
theorem tk_XA : ∀ k, k < 0 → parseFieldDescriptor (T_XA k).2.2.1 = some (ty_XA k) := by decide +kernel
def R_XN : String := "java/util/NoSuchElementException"
def T_XN : u_T := fun k => match k with
  | _ => ("", "", "", false)
def ty_XN : Nat → FieldType := fun k => match k with
  | _ => .int
theorem nm_XN : ∀ a, a < 0 → ∀ b, b < 0 → a ≠ b → (T_XN a).2.1 ≠ (T_XN b).2.1 := by decide +kernel
theorem tk_XN : ∀ k, k < 0 → parseFieldDescriptor (T_XN k).2.2.1 = some (ty_XN k) := by decide +kernel
def R_XS : String := "java/lang/IllegalStateException"
def T_XS : u_T := fun k => match k with
  | _ => ("", "", "", false)
def ty_XS : Nat → FieldType := fun k => match k with
  | _ => .int
theorem nm_XS : ∀ a, a < 0 → ∀ b, b < 0 → a ≠ b → (T_XS a).2.1 ≠ (T_XS b).2.1 := by decide +kernel
theorem tk_XS : ∀ k, k < 0 → parseFieldDescriptor (T_XS k).2.2.1 = some (ty_XS k) := by decide +kernel
def R_XI : String := "java/lang/IndexOutOfBoundsException"
def T_XI : u_T := fun k => match k with
  | _ => ("", "", "", false)
def ty_XI : Nat → FieldType := fun k => match k with
  | _ => .int
theorem nm_XI : ∀ a, a < 0 → ∀ b, b < 0 → a ≠ b → (T_XI a).2.1 ≠ (T_XI b).2.1 := by decide +kernel
theorem tk_XI : ∀ k, k < 0 → parseFieldDescriptor (T_XI k).2.2.1 = some (ty_XI k) := by decide +kernel
/-- the classes whose objects the worlds hold, by number -/
abbrev classes : List vw_C := [(R_B, T_B, 7), (R_F, T_F, 6), (R_W, T_W, 3), (R_T, T_T, 2), (R_K, T_K, 6), (R_O, T_O, 3), (R_P, T_P, 3), (R_C, T_C, 3), (R_S, T_S, 11), (R_M, T_M, 38), (R_XA, T_XA, 0), (R_XN, T_XN, 0), (R_XS, T_XS, 0), (R_XI, T_XI, 0)]
/-- words that stay true of warmer tables, whatever the heap -/
def j_ok (w : Cond) : Bool := match w with
  | .arrayClass _ => true
  | .fieldLinkNest .. => true
  | .methodLinkNest .. => true
  | w => w.onTables && w.keepsFace
def jt : List Cond := lw_tbl.filter j_ok
theorem j_in (i : Nat) {w : Cond} (h : tables_1[i]? = some w) (hok : j_ok w = true) : w ∈ jt := List.mem_filter.mpr ⟨List.mem_append_right _ (List.mem_of_getElem? h), hok⟩
theorem j_ip (i : Nat) {y : MethodName} {n : Nat} (h : lw_privs[i]? = some (y, n)) : Cond.selects y.cls y y ∈ jt := List.mem_filter.mpr ⟨List.mem_append_left _ (List.mem_map.mpr ⟨(y, n), List.mem_of_getElem? h, rfl⟩), rfl⟩
