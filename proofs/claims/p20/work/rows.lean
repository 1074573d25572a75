section
/-! names, fields, words and decode rows of the constructors and of Row.put, out of the names that TURN printed (prefix rf) -/
theorem rf_goodIn_r {big : List Cond} (ws : List Cond) (ps : List Nat) (hp : ws = ps.filterMap (fun i => big[i]?)) (h : ws.all goodWord = true) : GoodIn big ws := by
  intro w hw
  have h1 := List.all_eq_true.mp h w hw
  rw [hp] at hw
  obtain ⟨i, -, hi⟩ := List.mem_filterMap.mp hw
  have hm : w ∈ big := by first | exact List.mem_of_getElem? hi | exact List.getElem?_mem hi
  exact ⟨hm, good_of_word h1⟩
theorem rf_goodIn_app {big a b : List Cond} (ha : GoodIn big a) (hb : GoodIn big b) : GoodIn big (a ++ b) := fun w h => (List.mem_append.mp h).elim (ha w) (hb w)
def rfRX0 : String := "DollGarlands$Chains"
def rfTX0 : u_T := fun k => match k with
  | 0 => ("DollGarlands$Chains", "table", "LDollGarlands$Table;", true)
  | 1 => ("DollGarlands$Chains", "followers", "LDollGarlands$Row;", true)
  | 2 => ("DollGarlands$Chains", "endings", "LDollGarlands$Row;", true)
  | _ => ("DollGarlands$Chains", "longer", "LDollGarlands$Row;", true)
def rftyX0 : Nat → FieldType := fun k => match k with
  | 0 => .object "DollGarlands$Table"
  | 1 => .object "DollGarlands$Row"
  | 2 => .object "DollGarlands$Row"
  | _ => .object "DollGarlands$Row"
abbrev rfwsX00 : List Cond := u_ws rfRX0 rfTX0 4
theorem rfnmX0 : ∀ a, a < 4 → ∀ b, b < 4 → a ≠ b → (rfTX0 a).2.1 ≠ (rfTX0 b).2.1 := by decide +kernel
theorem rftyX0_ok : ∀ k, k < 4 → parseFieldDescriptor (rfTX0 k).2.2.1 = some (rftyX0 k) := by decide +kernel
def rfRX1 : String := "DollGarlands$History"
def rfTX1 : u_T := fun k => match k with
  | 0 => ("DollGarlands$History", "states", "LDollGarlands$Row;", true)
  | 1 => ("DollGarlands$History", "oldest", "I", false)
  | _ => ("DollGarlands$History", "recorded", "I", false)
def rftyX1 : Nat → FieldType := fun k => match k with
  | 0 => .object "DollGarlands$Row"
  | 1 => .int
  | _ => .int
abbrev rfwsX10 : List Cond := u_ws rfRX1 rfTX1 3
theorem rfnmX1 : ∀ a, a < 3 → ∀ b, b < 3 → a ≠ b → (rfTX1 a).2.1 ≠ (rfTX1 b).2.1 := by decide +kernel
theorem rftyX1_ok : ∀ k, k < 3 → parseFieldDescriptor (rfTX1 k).2.2.1 = some (rftyX1 k) := by decide +kernel
def rfRX2 : String := "DollGarlands$Looks"
def rfTX2 : u_T := fun k => match k with
  | _ => ("DollGarlands$Looks", "table", "LDollGarlands$Table;", true)
def rftyX2 : Nat → FieldType := fun k => match k with
  | _ => .object "DollGarlands$Table"
abbrev rfwsX20 : List Cond := u_ws rfRX2 rfTX2 1
theorem rfnmX2 : ∀ a, a < 1 → ∀ b, b < 1 → a ≠ b → (rfTX2 a).2.1 ≠ (rfTX2 b).2.1 := by decide +kernel
theorem rftyX2_ok : ∀ k, k < 1 → parseFieldDescriptor (rfTX2 k).2.2.1 = some (rftyX2 k) := by decide +kernel
def rfRX3 : String := "DollGarlands$Row"
def rfTX3 : u_T := fun k => match k with
  | _ => ("DollGarlands$Row", "cells", "[I", true)
def rftyX3 : Nat → FieldType := fun k => match k with
  | _ => .array .int
abbrev rfwsX30 : List Cond := u_ws rfRX3 rfTX3 1
theorem rfnmX3 : ∀ a, a < 1 → ∀ b, b < 1 → a ≠ b → (rfTX3 a).2.1 ≠ (rfTX3 b).2.1 := by decide +kernel
theorem rftyX3_ok : ∀ k, k < 1 → parseFieldDescriptor (rfTX3 k).2.2.1 = some (rftyX3 k) := by decide +kernel
def rfRX4 : String := "DollGarlands$Table"
def rfTX4 : u_T := fun k => match k with
  | _ => ("DollGarlands$Table", "cells", "LDollGarlands$Row;", true)
def rftyX4 : Nat → FieldType := fun k => match k with
  | _ => .object "DollGarlands$Row"
abbrev rfwsX40 : List Cond := u_ws rfRX4 rfTX4 1
theorem rfnmX4 : ∀ a, a < 1 → ∀ b, b < 1 → a ≠ b → (rfTX4 a).2.1 ≠ (rfTX4 b).2.1 := by decide +kernel
theorem rftyX4_ok : ∀ k, k < 1 → parseFieldDescriptor (rfTX4 k).2.2.1 = some (rftyX4 k) := by decide +kernel
def rfRX5 : String := "DollGarlands$Text"
def rfTX5 : u_T := fun k => match k with
  | 0 => ("DollGarlands$Text", "characters", "LDollGarlands$Row;", true)
  | _ => ("DollGarlands$Text", "length", "I", false)
def rftyX5 : Nat → FieldType := fun k => match k with
  | 0 => .object "DollGarlands$Row"
  | _ => .int
abbrev rfwsX50 : List Cond := u_ws rfRX5 rfTX5 2
theorem rfnmX5 : ∀ a, a < 2 → ∀ b, b < 2 → a ≠ b → (rfTX5 a).2.1 ≠ (rfTX5 b).2.1 := by decide +kernel
theorem rftyX5_ok : ∀ k, k < 2 → parseFieldDescriptor (rfTX5 k).2.2.1 = some (rftyX5 k) := by decide +kernel
def rfRX6 : String := "DollGarlands"
def rfTX6 : u_T := fun k => match k with
  | 0 => ("DollGarlands", "table", "LDollGarlands$Table;", true)
  | 1 => ("DollGarlands", "looks", "LDollGarlands$Looks;", true)
  | 2 => ("DollGarlands", "chains", "LDollGarlands$Chains;", true)
  | 3 => ("DollGarlands", "history", "LDollGarlands$History;", true)
  | 4 => ("DollGarlands", "text", "LDollGarlands$Text;", true)
  | 5 => ("DollGarlands", "snapshot", "LDollGarlands$Row;", true)
  | 6 => ("DollGarlands", "bench", "LDollGarlands$Row;", true)
  | _ => ("DollGarlands", "hasSnapshot", "Z", false)
def rftyX6 : Nat → FieldType := fun k => match k with
  | 0 => .object "DollGarlands$Table"
  | 1 => .object "DollGarlands$Looks"
  | 2 => .object "DollGarlands$Chains"
  | 3 => .object "DollGarlands$History"
  | 4 => .object "DollGarlands$Text"
  | 5 => .object "DollGarlands$Row"
  | 6 => .object "DollGarlands$Row"
  | _ => .boolean
abbrev rfwsX60 : List Cond := u_ws rfRX6 rfTX6 8
theorem rfnmX6 : ∀ a, a < 8 → ∀ b, b < 8 → a ≠ b → (rfTX6 a).2.1 ≠ (rfTX6 b).2.1 := by decide +kernel
theorem rftyX6_ok : ∀ k, k < 8 → parseFieldDescriptor (rfTX6 k).2.2.1 = some (rftyX6 k) := by decide +kernel
def rfRX7 : String := "DollGarlandsModel"
def rfTX7 : u_T := fun k => match k with
  | 0 => ("DollGarlandsModel", "all", "[I", true)
  | 1 => ("DollGarlandsModel", "kept", "[I", true)
  | 2 => ("DollGarlandsModel", "history", "[I", true)
  | 3 => ("DollGarlandsModel", "historyLong", "I", false)
  | 4 => ("DollGarlandsModel", "snapshot", "[I", true)
  | 5 => ("DollGarlandsModel", "isKept", "I", false)
  | 6 => ("DollGarlandsModel", "row", "[I", true)
  | 7 => ("DollGarlandsModel", "text", "[I", true)
  | 8 => ("DollGarlandsModel", "textLong", "I", false)
  | 9 => ("DollGarlandsModel", "spot", "I", false)
  | 10 => ("DollGarlandsModel", "read", "I", false)
  | 11 => ("DollGarlandsModel", "far", "[I", true)
  | 12 => ("DollGarlandsModel", "ending", "[I", true)
  | _ => ("DollGarlandsModel", "longer", "[I", true)
def rftyX7 : Nat → FieldType := fun k => match k with
  | 0 => .array .int
  | 1 => .array .int
  | 2 => .array .int
  | 3 => .int
  | 4 => .array .int
  | 5 => .int
  | 6 => .array .int
  | 7 => .array .int
  | 8 => .int
  | 9 => .int
  | 10 => .int
  | 11 => .array .int
  | 12 => .array .int
  | _ => .array .int
abbrev rfwsX70 : List Cond := u_ws rfRX7 rfTX7 14
theorem rfnmX7 : ∀ a, a < 14 → ∀ b, b < 14 → a ≠ b → (rfTX7 a).2.1 ≠ (rfTX7 b).2.1 := by decide +kernel
theorem rftyX7_ok : ∀ k, k < 14 → parseFieldDescriptor (rfTX7 k).2.2.1 = some (rftyX7 k) := by decide +kernel
abbrev rfcX0_init : ByteArray := prog_2_method_1_code
def rfyX0_init : MethodName := ⟨rfRX0, "<init>", "(LDollGarlands$Table;)V"⟩
abbrev rfcX1_init : ByteArray := prog_3_method_1_code
def rfyX1_init : MethodName := ⟨rfRX1, "<init>", "()V"⟩
abbrev rfcX2_init : ByteArray := prog_4_method_1_code
def rfyX2_init : MethodName := ⟨rfRX2, "<init>", "(LDollGarlands$Table;)V"⟩
abbrev rfcX3_init : ByteArray := prog_5_method_1_code
def rfyX3_init : MethodName := ⟨rfRX3, "<init>", "(I)V"⟩
abbrev rfcX4_init : ByteArray := prog_6_method_1_code
def rfyX4_init : MethodName := ⟨rfRX4, "<init>", "()V"⟩
abbrev rfcX5_init : ByteArray := prog_7_method_1_code
def rfyX5_init : MethodName := ⟨rfRX5, "<init>", "()V"⟩
abbrev rfcX6_init : ByteArray := prog_1_method_1_code
def rfyX6_init : MethodName := ⟨rfRX6, "<init>", "()V"⟩
abbrev rfcX7_init : ByteArray := prog_9_method_1_code
def rfyX7_init : MethodName := ⟨rfRX7, "<init>", "()V"⟩
abbrev rfcX3_put : ByteArray := prog_5_method_3_code
def rfyX3_put : MethodName := ⟨rfRX3, "put", "(II)V"⟩
def rfwsX3_init : List Cond := .code rfyX3_init rfcX3_init 2 none :: ([.methodLink rfRX3 1 objectInit, .instanceMethod objectInit, .code objectInit ⟨#[0xb1]⟩ 1 none, .arrayClass .int, .fieldLink rfRX3 7 "DollGarlands$Row" "cells" "[I"] ++ rfwsX30)
def rfwsX3_put : List Cond := .code rfyX3_put rfcX3_put 3 none :: ([.fieldLink rfRX3 7 "DollGarlands$Row" "cells" "[I"] ++ rfwsX30)
def rfwsX0_init : List Cond := .code rfyX0_init rfcX0_init 2 none :: ([.methodLink rfRX0 3 objectInit, .instanceMethod objectInit, .code objectInit ⟨#[0xb1]⟩ 1 none, .fieldLink rfRX0 9 "DollGarlands$Chains" "table" "LDollGarlands$Table;", .classLink rfRX0 15 rfRX3, .instantiable rfRX3 1, .initialized rfRX3, .fieldLink rfRX0 20 "DollGarlands$Chains" "followers" "LDollGarlands$Row;", .fieldLink rfRX0 24 "DollGarlands$Chains" "endings" "LDollGarlands$Row;", .fieldLink rfRX0 27 "DollGarlands$Chains" "longer" "LDollGarlands$Row;", .methodLink rfRX0 17 rfyX3_init, .instanceMethod rfyX3_init, .code rfyX3_init rfcX3_init 2 none, .methodLink rfRX3 1 objectInit, .arrayClass .int, .fieldLink rfRX3 7 "DollGarlands$Row" "cells" "[I"] ++ rfwsX00 ++ rfwsX30)
def rfwsX1_init : List Cond := .code rfyX1_init rfcX1_init 1 none :: ([.methodLink rfRX1 3 objectInit, .instanceMethod objectInit, .code objectInit ⟨#[0xb1]⟩ 1 none, .classLink rfRX1 9 rfRX3, .instantiable rfRX3 1, .initialized rfRX3, .fieldLink rfRX1 16 "DollGarlands$History" "states" "LDollGarlands$Row;", .fieldLink rfRX1 22 "DollGarlands$History" "oldest" "I", .fieldLink rfRX1 26 "DollGarlands$History" "recorded" "I", .methodLink rfRX1 13 rfyX3_init, .instanceMethod rfyX3_init, .code rfyX3_init rfcX3_init 2 none, .methodLink rfRX3 1 objectInit, .arrayClass .int, .fieldLink rfRX3 7 "DollGarlands$Row" "cells" "[I"] ++ rfwsX30 ++ rfwsX10)
def rfwsX2_init : List Cond := .code rfyX2_init rfcX2_init 2 none :: ([.methodLink rfRX2 3 objectInit, .instanceMethod objectInit, .code objectInit ⟨#[0xb1]⟩ 1 none, .fieldLink rfRX2 9 "DollGarlands$Looks" "table" "LDollGarlands$Table;"] ++ rfwsX20)
def rfwsX4_init : List Cond := .code rfyX4_init rfcX4_init 2 none :: ([.methodLink rfRX4 5 objectInit, .instanceMethod objectInit, .code objectInit ⟨#[0xb1]⟩ 1 none, .classLink rfRX4 11 rfRX3, .instantiable rfRX3 1, .initialized rfRX3, .fieldLink rfRX4 16 "DollGarlands$Table" "cells" "LDollGarlands$Row;", .methodLink rfRX4 13 rfyX3_init, .instanceMethod rfyX3_init, .code rfyX3_init rfcX3_init 2 none, .methodLink rfRX3 1 objectInit, .arrayClass .int, .fieldLink rfRX3 7 "DollGarlands$Row" "cells" "[I", .methodLink rfRX4 20 rfyX3_put, .instanceMethod rfyX3_put, .selects rfRX3 rfyX3_put rfyX3_put, .code rfyX3_put rfcX3_put 3 none] ++ rfwsX30 ++ rfwsX40)
def rfwsX5_init : List Cond := .code rfyX5_init rfcX5_init 1 none :: ([.methodLink rfRX5 3 objectInit, .instanceMethod objectInit, .code objectInit ⟨#[0xb1]⟩ 1 none, .classLink rfRX5 9 rfRX3, .instantiable rfRX3 1, .initialized rfRX3, .fieldLink rfRX5 14 "DollGarlands$Text" "characters" "LDollGarlands$Row;", .fieldLink rfRX5 20 "DollGarlands$Text" "length" "I", .methodLink rfRX5 11 rfyX3_init, .instanceMethod rfyX3_init, .code rfyX3_init rfcX3_init 2 none, .methodLink rfRX3 1 objectInit, .arrayClass .int, .fieldLink rfRX3 7 "DollGarlands$Row" "cells" "[I"] ++ rfwsX30 ++ rfwsX50)
def rfwsX6_init_r1 : List Cond := [Cond.methodLink rfRX6 3 objectInit, Cond.instanceMethod objectInit, Cond.code objectInit ⟨#[0xb1]⟩ 1 none, Cond.classLink rfRX6 9 rfRX4, Cond.instantiable rfRX4 1, Cond.initialized rfRX4, Cond.fieldLink rfRX6 12 "DollGarlands" "table" "LDollGarlands$Table;", Cond.classLink rfRX6 16 rfRX2, Cond.instantiable rfRX2 1, Cond.initialized rfRX2, Cond.fieldLink rfRX6 21 "DollGarlands" "looks" "LDollGarlands$Looks;", Cond.classLink rfRX6 25 rfRX0, Cond.instantiable rfRX0 4, Cond.initialized rfRX0, Cond.fieldLink rfRX6 28 "DollGarlands" "chains" "LDollGarlands$Chains;", Cond.classLink rfRX6 32 rfRX1, Cond.instantiable rfRX1 3, Cond.initialized rfRX1, Cond.fieldLink rfRX6 35 "DollGarlands" "history" "LDollGarlands$History;", Cond.classLink rfRX6 39 rfRX5, Cond.instantiable rfRX5 2, Cond.initialized rfRX5, Cond.fieldLink rfRX6 42 "DollGarlands" "text" "LDollGarlands$Text;", Cond.classLink rfRX6 46 rfRX3]
def rfwsX6_init_r2 : List Cond := [Cond.instantiable rfRX3 1, Cond.initialized rfRX3, Cond.fieldLink rfRX6 51 "DollGarlands" "snapshot" "LDollGarlands$Row;", Cond.fieldLink rfRX6 55 "DollGarlands" "bench" "LDollGarlands$Row;", Cond.fieldLink rfRX6 58 "DollGarlands" "hasSnapshot" "Z", Cond.methodLink rfRX6 11 rfyX4_init, Cond.instanceMethod rfyX4_init, Cond.code rfyX4_init rfcX4_init 2 none, Cond.methodLink rfRX4 5 objectInit, Cond.classLink rfRX4 11 rfRX3, Cond.fieldLink rfRX4 16 "DollGarlands$Table" "cells" "LDollGarlands$Row;", Cond.methodLink rfRX4 13 rfyX3_init, Cond.instanceMethod rfyX3_init, Cond.code rfyX3_init rfcX3_init 2 none, Cond.methodLink rfRX3 1 objectInit, Cond.arrayClass .int, Cond.fieldLink rfRX3 7 "DollGarlands$Row" "cells" "[I", Cond.methodLink rfRX4 20 rfyX3_put, Cond.instanceMethod rfyX3_put, Cond.selects rfRX3 rfyX3_put rfyX3_put, Cond.code rfyX3_put rfcX3_put 3 none, Cond.methodLink rfRX6 18 rfyX2_init, Cond.instanceMethod rfyX2_init, Cond.code rfyX2_init rfcX2_init 2 none]
def rfwsX6_init_r3 : List Cond := [Cond.methodLink rfRX2 3 objectInit, Cond.fieldLink rfRX2 9 "DollGarlands$Looks" "table" "LDollGarlands$Table;", Cond.methodLink rfRX6 27 rfyX0_init, Cond.instanceMethod rfyX0_init, Cond.code rfyX0_init rfcX0_init 2 none, Cond.methodLink rfRX0 3 objectInit, Cond.fieldLink rfRX0 9 "DollGarlands$Chains" "table" "LDollGarlands$Table;", Cond.classLink rfRX0 15 rfRX3, Cond.fieldLink rfRX0 20 "DollGarlands$Chains" "followers" "LDollGarlands$Row;", Cond.fieldLink rfRX0 24 "DollGarlands$Chains" "endings" "LDollGarlands$Row;", Cond.fieldLink rfRX0 27 "DollGarlands$Chains" "longer" "LDollGarlands$Row;", Cond.methodLink rfRX0 17 rfyX3_init, Cond.methodLink rfRX6 34 rfyX1_init, Cond.instanceMethod rfyX1_init, Cond.code rfyX1_init rfcX1_init 1 none, Cond.methodLink rfRX1 3 objectInit, Cond.classLink rfRX1 9 rfRX3, Cond.fieldLink rfRX1 16 "DollGarlands$History" "states" "LDollGarlands$Row;", Cond.fieldLink rfRX1 22 "DollGarlands$History" "oldest" "I", Cond.fieldLink rfRX1 26 "DollGarlands$History" "recorded" "I", Cond.methodLink rfRX1 13 rfyX3_init, Cond.methodLink rfRX6 41 rfyX5_init, Cond.instanceMethod rfyX5_init, Cond.code rfyX5_init rfcX5_init 1 none]
def rfwsX6_init_r4 : List Cond := [Cond.methodLink rfRX5 3 objectInit, Cond.classLink rfRX5 9 rfRX3, Cond.fieldLink rfRX5 14 "DollGarlands$Text" "characters" "LDollGarlands$Row;", Cond.fieldLink rfRX5 20 "DollGarlands$Text" "length" "I", Cond.methodLink rfRX5 11 rfyX3_init, Cond.methodLink rfRX6 48 rfyX3_init]
def rfwsX6_init : List Cond := .code rfyX6_init rfcX6_init 1 none :: ((rfwsX6_init_r1 ++ (rfwsX6_init_r2 ++ (rfwsX6_init_r3 ++ rfwsX6_init_r4))) ++ rfwsX40 ++ rfwsX60 ++ rfwsX20 ++ rfwsX00 ++ rfwsX10 ++ rfwsX50 ++ rfwsX30)
def rfwsX7_init : List Cond := .code rfyX7_init rfcX7_init 2 none :: ([.methodLink rfRX7 1 objectInit, .instanceMethod objectInit, .code objectInit ⟨#[0xb1]⟩ 1 none, .arrayClass .int, .fieldLink rfRX7 7 "DollGarlandsModel" "all" "[I", .fieldLink rfRX7 13 "DollGarlandsModel" "kept" "[I", .fieldLink rfRX7 16 "DollGarlandsModel" "history" "[I", .fieldLink rfRX7 19 "DollGarlandsModel" "snapshot" "[I", .fieldLink rfRX7 22 "DollGarlandsModel" "row" "[I", .fieldLink rfRX7 25 "DollGarlandsModel" "text" "[I", .fieldLink rfRX7 28 "DollGarlandsModel" "far" "[I", .fieldLink rfRX7 31 "DollGarlandsModel" "ending" "[I", .fieldLink rfRX7 34 "DollGarlandsModel" "longer" "[I"] ++ rfwsX70)
theorem rfdX0_init_0 : decode rfcX0_init 0 = .ok (.aload_n 0, 1) := by decide +kernel
theorem rfdX0_init_1 : decode rfcX0_init 1 = .ok (.invokespecial 3, 3) := by decide +kernel
theorem rfdX0_init_4 : decode rfcX0_init 4 = .ok (.aload_n 0, 1) := by decide +kernel
theorem rfdX0_init_5 : decode rfcX0_init 5 = .ok (.aload_n 1, 1) := by decide +kernel
theorem rfdX0_init_6 : decode rfcX0_init 6 = .ok (.putfield 9, 3) := by decide +kernel
theorem rfdX0_init_9 : decode rfcX0_init 9 = .ok (.aload_n 0, 1) := by decide +kernel
theorem rfdX0_init_10 : decode rfcX0_init 10 = .ok (.new 15, 3) := by decide +kernel
theorem rfdX0_init_13 : decode rfcX0_init 13 = .ok (.dup, 1) := by decide +kernel
theorem rfdX0_init_14 : decode rfcX0_init 14 = .ok (.bipush 20, 2) := by decide +kernel
theorem rfdX0_init_16 : decode rfcX0_init 16 = .ok (.invokespecial 17, 3) := by decide +kernel
theorem rfdX0_init_19 : decode rfcX0_init 19 = .ok (.putfield 20, 3) := by decide +kernel
theorem rfdX0_init_22 : decode rfcX0_init 22 = .ok (.aload_n 0, 1) := by decide +kernel
theorem rfdX0_init_23 : decode rfcX0_init 23 = .ok (.new 15, 3) := by decide +kernel
theorem rfdX0_init_26 : decode rfcX0_init 26 = .ok (.dup, 1) := by decide +kernel
theorem rfdX0_init_27 : decode rfcX0_init 27 = .ok (.bipush 20, 2) := by decide +kernel
theorem rfdX0_init_29 : decode rfcX0_init 29 = .ok (.invokespecial 17, 3) := by decide +kernel
theorem rfdX0_init_32 : decode rfcX0_init 32 = .ok (.putfield 24, 3) := by decide +kernel
theorem rfdX0_init_35 : decode rfcX0_init 35 = .ok (.aload_n 0, 1) := by decide +kernel
theorem rfdX0_init_36 : decode rfcX0_init 36 = .ok (.new 15, 3) := by decide +kernel
theorem rfdX0_init_39 : decode rfcX0_init 39 = .ok (.dup, 1) := by decide +kernel
theorem rfdX0_init_40 : decode rfcX0_init 40 = .ok (.bipush 20, 2) := by decide +kernel
theorem rfdX0_init_42 : decode rfcX0_init 42 = .ok (.invokespecial 17, 3) := by decide +kernel
theorem rfdX0_init_45 : decode rfcX0_init 45 = .ok (.putfield 27, 3) := by decide +kernel
theorem rfdX0_init_48 : decode rfcX0_init 48 = .ok (.return_, 1) := by decide +kernel
theorem rfdX1_init_0 : decode rfcX1_init 0 = .ok (.aload_n 0, 1) := by decide +kernel
theorem rfdX1_init_1 : decode rfcX1_init 1 = .ok (.invokespecial 3, 3) := by decide +kernel
theorem rfdX1_init_4 : decode rfcX1_init 4 = .ok (.aload_n 0, 1) := by decide +kernel
theorem rfdX1_init_5 : decode rfcX1_init 5 = .ok (.new 9, 3) := by decide +kernel
theorem rfdX1_init_8 : decode rfcX1_init 8 = .ok (.dup, 1) := by decide +kernel
theorem rfdX1_init_9 : decode rfcX1_init 9 = .ok (.sipush 1144, 3) := by decide +kernel
theorem rfdX1_init_12 : decode rfcX1_init 12 = .ok (.invokespecial 13, 3) := by decide +kernel
theorem rfdX1_init_15 : decode rfcX1_init 15 = .ok (.putfield 16, 3) := by decide +kernel
theorem rfdX1_init_18 : decode rfcX1_init 18 = .ok (.aload_n 0, 1) := by decide +kernel
theorem rfdX1_init_19 : decode rfcX1_init 19 = .ok (.iconst 0, 1) := by decide +kernel
theorem rfdX1_init_20 : decode rfcX1_init 20 = .ok (.putfield 22, 3) := by decide +kernel
theorem rfdX1_init_23 : decode rfcX1_init 23 = .ok (.aload_n 0, 1) := by decide +kernel
theorem rfdX1_init_24 : decode rfcX1_init 24 = .ok (.iconst 0, 1) := by decide +kernel
theorem rfdX1_init_25 : decode rfcX1_init 25 = .ok (.putfield 26, 3) := by decide +kernel
theorem rfdX1_init_28 : decode rfcX1_init 28 = .ok (.return_, 1) := by decide +kernel
theorem rfdX2_init_0 : decode rfcX2_init 0 = .ok (.aload_n 0, 1) := by decide +kernel
theorem rfdX2_init_1 : decode rfcX2_init 1 = .ok (.invokespecial 3, 3) := by decide +kernel
theorem rfdX2_init_4 : decode rfcX2_init 4 = .ok (.aload_n 0, 1) := by decide +kernel
theorem rfdX2_init_5 : decode rfcX2_init 5 = .ok (.aload_n 1, 1) := by decide +kernel
theorem rfdX2_init_6 : decode rfcX2_init 6 = .ok (.putfield 9, 3) := by decide +kernel
theorem rfdX2_init_9 : decode rfcX2_init 9 = .ok (.return_, 1) := by decide +kernel
theorem rfdX3_init_0 : decode rfcX3_init 0 = .ok (.aload_n 0, 1) := by decide +kernel
theorem rfdX3_init_1 : decode rfcX3_init 1 = .ok (.invokespecial 1, 3) := by decide +kernel
theorem rfdX3_init_4 : decode rfcX3_init 4 = .ok (.aload_n 0, 1) := by decide +kernel
theorem rfdX3_init_5 : decode rfcX3_init 5 = .ok (.iload_n 1, 1) := by decide +kernel
theorem rfdX3_init_6 : decode rfcX3_init 6 = .ok (.ifCond .le 7, 3) := by decide +kernel
theorem rfdX3_init_9 : decode rfcX3_init 9 = .ok (.iload_n 1, 1) := by decide +kernel
theorem rfdX3_init_10 : decode rfcX3_init 10 = .ok (.goto 4, 3) := by decide +kernel
theorem rfdX3_init_13 : decode rfcX3_init 13 = .ok (.iconst 0, 1) := by decide +kernel
theorem rfdX3_init_14 : decode rfcX3_init 14 = .ok (.newarray .int, 2) := by decide +kernel
theorem rfdX3_init_16 : decode rfcX3_init 16 = .ok (.putfield 7, 3) := by decide +kernel
theorem rfdX3_init_19 : decode rfcX3_init 19 = .ok (.return_, 1) := by decide +kernel
theorem rfdX4_init_0 : decode rfcX4_init 0 = .ok (.aload_n 0, 1) := by decide +kernel
theorem rfdX4_init_1 : decode rfcX4_init 1 = .ok (.invokespecial 5, 3) := by decide +kernel
theorem rfdX4_init_4 : decode rfcX4_init 4 = .ok (.aload_n 0, 1) := by decide +kernel
theorem rfdX4_init_5 : decode rfcX4_init 5 = .ok (.new 11, 3) := by decide +kernel
theorem rfdX4_init_8 : decode rfcX4_init 8 = .ok (.dup, 1) := by decide +kernel
theorem rfdX4_init_9 : decode rfcX4_init 9 = .ok (.sipush 286, 3) := by decide +kernel
theorem rfdX4_init_12 : decode rfcX4_init 12 = .ok (.invokespecial 13, 3) := by decide +kernel
theorem rfdX4_init_15 : decode rfcX4_init 15 = .ok (.putfield 16, 3) := by decide +kernel
theorem rfdX4_init_18 : decode rfcX4_init 18 = .ok (.aload_n 0, 1) := by decide +kernel
theorem rfdX4_init_19 : decode rfcX4_init 19 = .ok (.getfield 16, 3) := by decide +kernel
theorem rfdX4_init_22 : decode rfcX4_init 22 = .ok (.iconst 1, 1) := by decide +kernel
theorem rfdX4_init_23 : decode rfcX4_init 23 = .ok (.iconst 3, 1) := by decide +kernel
theorem rfdX4_init_24 : decode rfcX4_init 24 = .ok (.invokevirtual 20, 3) := by decide +kernel
theorem rfdX4_init_27 : decode rfcX4_init 27 = .ok (.iconst 0, 1) := by decide +kernel
theorem rfdX4_init_28 : decode rfcX4_init 28 = .ok (.istore_n 1, 1) := by decide +kernel
theorem rfdX4_init_29 : decode rfcX4_init 29 = .ok (.iload_n 1, 1) := by decide +kernel
theorem rfdX4_init_30 : decode rfcX4_init 30 = .ok (.bipush 10, 2) := by decide +kernel
theorem rfdX4_init_32 : decode rfcX4_init 32 = .ok (.if_icmp .ge 40, 3) := by decide +kernel
theorem rfdX4_init_35 : decode rfcX4_init 35 = .ok (.aload_n 0, 1) := by decide +kernel
theorem rfdX4_init_36 : decode rfcX4_init 36 = .ok (.getfield 16, 3) := by decide +kernel
theorem rfdX4_init_39 : decode rfcX4_init 39 = .ok (.iconst 2, 1) := by decide +kernel
theorem rfdX4_init_40 : decode rfcX4_init 40 = .ok (.iload_n 1, 1) := by decide +kernel
theorem rfdX4_init_41 : decode rfcX4_init 41 = .ok (.iadd, 1) := by decide +kernel
theorem rfdX4_init_42 : decode rfcX4_init 42 = .ok (.iload_n 1, 1) := by decide +kernel
theorem rfdX4_init_43 : decode rfcX4_init 43 = .ok (.bipush 6, 2) := by decide +kernel
theorem rfdX4_init_45 : decode rfcX4_init 45 = .ok (.irem, 1) := by decide +kernel
theorem rfdX4_init_46 : decode rfcX4_init 46 = .ok (.invokevirtual 20, 3) := by decide +kernel
theorem rfdX4_init_49 : decode rfcX4_init 49 = .ok (.aload_n 0, 1) := by decide +kernel
theorem rfdX4_init_50 : decode rfcX4_init 50 = .ok (.getfield 16, 3) := by decide +kernel
theorem rfdX4_init_53 : decode rfcX4_init 53 = .ok (.bipush 12, 2) := by decide +kernel
theorem rfdX4_init_55 : decode rfcX4_init 55 = .ok (.iload_n 1, 1) := by decide +kernel
theorem rfdX4_init_56 : decode rfcX4_init 56 = .ok (.iadd, 1) := by decide +kernel
theorem rfdX4_init_57 : decode rfcX4_init 57 = .ok (.iload_n 1, 1) := by decide +kernel
theorem rfdX4_init_58 : decode rfcX4_init 58 = .ok (.iconst 1, 1) := by decide +kernel
theorem rfdX4_init_59 : decode rfcX4_init 59 = .ok (.iadd, 1) := by decide +kernel
theorem rfdX4_init_60 : decode rfcX4_init 60 = .ok (.bipush 6, 2) := by decide +kernel
theorem rfdX4_init_62 : decode rfcX4_init 62 = .ok (.irem, 1) := by decide +kernel
theorem rfdX4_init_63 : decode rfcX4_init 63 = .ok (.invokevirtual 20, 3) := by decide +kernel
theorem rfdX4_init_66 : decode rfcX4_init 66 = .ok (.iinc 1 1, 3) := by decide +kernel
theorem rfdX4_init_69 : decode rfcX4_init 69 = .ok (.goto (-40), 3) := by decide +kernel
theorem rfdX4_init_72 : decode rfcX4_init 72 = .ok (.return_, 1) := by decide +kernel
theorem rfdX5_init_0 : decode rfcX5_init 0 = .ok (.aload_n 0, 1) := by decide +kernel
theorem rfdX5_init_1 : decode rfcX5_init 1 = .ok (.invokespecial 3, 3) := by decide +kernel
theorem rfdX5_init_4 : decode rfcX5_init 4 = .ok (.aload_n 0, 1) := by decide +kernel
theorem rfdX5_init_5 : decode rfcX5_init 5 = .ok (.new 9, 3) := by decide +kernel
theorem rfdX5_init_8 : decode rfcX5_init 8 = .ok (.dup, 1) := by decide +kernel
theorem rfdX5_init_9 : decode rfcX5_init 9 = .ok (.bipush 80, 2) := by decide +kernel
theorem rfdX5_init_11 : decode rfcX5_init 11 = .ok (.invokespecial 11, 3) := by decide +kernel
theorem rfdX5_init_14 : decode rfcX5_init 14 = .ok (.putfield 14, 3) := by decide +kernel
theorem rfdX5_init_17 : decode rfcX5_init 17 = .ok (.aload_n 0, 1) := by decide +kernel
theorem rfdX5_init_18 : decode rfcX5_init 18 = .ok (.iconst 0, 1) := by decide +kernel
theorem rfdX5_init_19 : decode rfcX5_init 19 = .ok (.putfield 20, 3) := by decide +kernel
theorem rfdX5_init_22 : decode rfcX5_init 22 = .ok (.return_, 1) := by decide +kernel
theorem rfdX6_init_0 : decode rfcX6_init 0 = .ok (.aload_n 0, 1) := by decide +kernel
theorem rfdX6_init_1 : decode rfcX6_init 1 = .ok (.invokespecial 3, 3) := by decide +kernel
theorem rfdX6_init_4 : decode rfcX6_init 4 = .ok (.aload_n 0, 1) := by decide +kernel
theorem rfdX6_init_5 : decode rfcX6_init 5 = .ok (.new 9, 3) := by decide +kernel
theorem rfdX6_init_8 : decode rfcX6_init 8 = .ok (.dup, 1) := by decide +kernel
theorem rfdX6_init_9 : decode rfcX6_init 9 = .ok (.invokespecial 11, 3) := by decide +kernel
theorem rfdX6_init_12 : decode rfcX6_init 12 = .ok (.putfield 12, 3) := by decide +kernel
theorem rfdX6_init_15 : decode rfcX6_init 15 = .ok (.aload_n 0, 1) := by decide +kernel
theorem rfdX6_init_16 : decode rfcX6_init 16 = .ok (.new 16, 3) := by decide +kernel
theorem rfdX6_init_19 : decode rfcX6_init 19 = .ok (.dup, 1) := by decide +kernel
theorem rfdX6_init_20 : decode rfcX6_init 20 = .ok (.aload_n 0, 1) := by decide +kernel
theorem rfdX6_init_21 : decode rfcX6_init 21 = .ok (.getfield 12, 3) := by decide +kernel
theorem rfdX6_init_24 : decode rfcX6_init 24 = .ok (.invokespecial 18, 3) := by decide +kernel
theorem rfdX6_init_27 : decode rfcX6_init 27 = .ok (.putfield 21, 3) := by decide +kernel
theorem rfdX6_init_30 : decode rfcX6_init 30 = .ok (.aload_n 0, 1) := by decide +kernel
theorem rfdX6_init_31 : decode rfcX6_init 31 = .ok (.new 25, 3) := by decide +kernel
theorem rfdX6_init_34 : decode rfcX6_init 34 = .ok (.dup, 1) := by decide +kernel
theorem rfdX6_init_35 : decode rfcX6_init 35 = .ok (.aload_n 0, 1) := by decide +kernel
theorem rfdX6_init_36 : decode rfcX6_init 36 = .ok (.getfield 12, 3) := by decide +kernel
theorem rfdX6_init_39 : decode rfcX6_init 39 = .ok (.invokespecial 27, 3) := by decide +kernel
theorem rfdX6_init_42 : decode rfcX6_init 42 = .ok (.putfield 28, 3) := by decide +kernel
theorem rfdX6_init_45 : decode rfcX6_init 45 = .ok (.aload_n 0, 1) := by decide +kernel
theorem rfdX6_init_46 : decode rfcX6_init 46 = .ok (.new 32, 3) := by decide +kernel
theorem rfdX6_init_49 : decode rfcX6_init 49 = .ok (.dup, 1) := by decide +kernel
theorem rfdX6_init_50 : decode rfcX6_init 50 = .ok (.invokespecial 34, 3) := by decide +kernel
theorem rfdX6_init_53 : decode rfcX6_init 53 = .ok (.putfield 35, 3) := by decide +kernel
theorem rfdX6_init_56 : decode rfcX6_init 56 = .ok (.aload_n 0, 1) := by decide +kernel
theorem rfdX6_init_57 : decode rfcX6_init 57 = .ok (.new 39, 3) := by decide +kernel
theorem rfdX6_init_60 : decode rfcX6_init 60 = .ok (.dup, 1) := by decide +kernel
theorem rfdX6_init_61 : decode rfcX6_init 61 = .ok (.invokespecial 41, 3) := by decide +kernel
theorem rfdX6_init_64 : decode rfcX6_init 64 = .ok (.putfield 42, 3) := by decide +kernel
theorem rfdX6_init_67 : decode rfcX6_init 67 = .ok (.aload_n 0, 1) := by decide +kernel
theorem rfdX6_init_68 : decode rfcX6_init 68 = .ok (.new 46, 3) := by decide +kernel
theorem rfdX6_init_71 : decode rfcX6_init 71 = .ok (.dup, 1) := by decide +kernel
theorem rfdX6_init_72 : decode rfcX6_init 72 = .ok (.sipush 286, 3) := by decide +kernel
theorem rfdX6_init_75 : decode rfcX6_init 75 = .ok (.invokespecial 48, 3) := by decide +kernel
theorem rfdX6_init_78 : decode rfcX6_init 78 = .ok (.putfield 51, 3) := by decide +kernel
theorem rfdX6_init_81 : decode rfcX6_init 81 = .ok (.aload_n 0, 1) := by decide +kernel
theorem rfdX6_init_82 : decode rfcX6_init 82 = .ok (.new 46, 3) := by decide +kernel
theorem rfdX6_init_85 : decode rfcX6_init 85 = .ok (.dup, 1) := by decide +kernel
theorem rfdX6_init_86 : decode rfcX6_init 86 = .ok (.bipush 32, 2) := by decide +kernel
theorem rfdX6_init_88 : decode rfcX6_init 88 = .ok (.invokespecial 48, 3) := by decide +kernel
theorem rfdX6_init_91 : decode rfcX6_init 91 = .ok (.putfield 55, 3) := by decide +kernel
theorem rfdX6_init_94 : decode rfcX6_init 94 = .ok (.aload_n 0, 1) := by decide +kernel
theorem rfdX6_init_95 : decode rfcX6_init 95 = .ok (.iconst 0, 1) := by decide +kernel
theorem rfdX6_init_96 : decode rfcX6_init 96 = .ok (.putfield 58, 3) := by decide +kernel
theorem rfdX6_init_99 : decode rfcX6_init 99 = .ok (.return_, 1) := by decide +kernel
theorem rfdX7_init_0 : decode rfcX7_init 0 = .ok (.aload_n 0, 1) := by decide +kernel
theorem rfdX7_init_1 : decode rfcX7_init 1 = .ok (.invokespecial 1, 3) := by decide +kernel
theorem rfdX7_init_4 : decode rfcX7_init 4 = .ok (.aload_n 0, 1) := by decide +kernel
theorem rfdX7_init_5 : decode rfcX7_init 5 = .ok (.sipush 286, 3) := by decide +kernel
theorem rfdX7_init_8 : decode rfcX7_init 8 = .ok (.newarray .int, 2) := by decide +kernel
theorem rfdX7_init_10 : decode rfcX7_init 10 = .ok (.putfield 7, 3) := by decide +kernel
theorem rfdX7_init_13 : decode rfcX7_init 13 = .ok (.aload_n 0, 1) := by decide +kernel
theorem rfdX7_init_14 : decode rfcX7_init 14 = .ok (.sipush 286, 3) := by decide +kernel
theorem rfdX7_init_17 : decode rfcX7_init 17 = .ok (.newarray .int, 2) := by decide +kernel
theorem rfdX7_init_19 : decode rfcX7_init 19 = .ok (.putfield 13, 3) := by decide +kernel
theorem rfdX7_init_22 : decode rfcX7_init 22 = .ok (.aload_n 0, 1) := by decide +kernel
theorem rfdX7_init_23 : decode rfcX7_init 23 = .ok (.sipush 1144, 3) := by decide +kernel
theorem rfdX7_init_26 : decode rfcX7_init 26 = .ok (.newarray .int, 2) := by decide +kernel
theorem rfdX7_init_28 : decode rfcX7_init 28 = .ok (.putfield 16, 3) := by decide +kernel
theorem rfdX7_init_31 : decode rfcX7_init 31 = .ok (.aload_n 0, 1) := by decide +kernel
theorem rfdX7_init_32 : decode rfcX7_init 32 = .ok (.sipush 286, 3) := by decide +kernel
theorem rfdX7_init_35 : decode rfcX7_init 35 = .ok (.newarray .int, 2) := by decide +kernel
theorem rfdX7_init_37 : decode rfcX7_init 37 = .ok (.putfield 19, 3) := by decide +kernel
theorem rfdX7_init_40 : decode rfcX7_init 40 = .ok (.aload_n 0, 1) := by decide +kernel
theorem rfdX7_init_41 : decode rfcX7_init 41 = .ok (.bipush 32, 2) := by decide +kernel
theorem rfdX7_init_43 : decode rfcX7_init 43 = .ok (.newarray .int, 2) := by decide +kernel
theorem rfdX7_init_45 : decode rfcX7_init 45 = .ok (.putfield 22, 3) := by decide +kernel
theorem rfdX7_init_48 : decode rfcX7_init 48 = .ok (.aload_n 0, 1) := by decide +kernel
theorem rfdX7_init_49 : decode rfcX7_init 49 = .ok (.bipush 80, 2) := by decide +kernel
theorem rfdX7_init_51 : decode rfcX7_init 51 = .ok (.newarray .int, 2) := by decide +kernel
theorem rfdX7_init_53 : decode rfcX7_init 53 = .ok (.putfield 25, 3) := by decide +kernel
theorem rfdX7_init_56 : decode rfcX7_init 56 = .ok (.aload_n 0, 1) := by decide +kernel
theorem rfdX7_init_57 : decode rfcX7_init 57 = .ok (.bipush 20, 2) := by decide +kernel
theorem rfdX7_init_59 : decode rfcX7_init 59 = .ok (.newarray .int, 2) := by decide +kernel
theorem rfdX7_init_61 : decode rfcX7_init 61 = .ok (.putfield 28, 3) := by decide +kernel
theorem rfdX7_init_64 : decode rfcX7_init 64 = .ok (.aload_n 0, 1) := by decide +kernel
theorem rfdX7_init_65 : decode rfcX7_init 65 = .ok (.bipush 20, 2) := by decide +kernel
theorem rfdX7_init_67 : decode rfcX7_init 67 = .ok (.newarray .int, 2) := by decide +kernel
theorem rfdX7_init_69 : decode rfcX7_init 69 = .ok (.putfield 31, 3) := by decide +kernel
theorem rfdX7_init_72 : decode rfcX7_init 72 = .ok (.aload_n 0, 1) := by decide +kernel
theorem rfdX7_init_73 : decode rfcX7_init 73 = .ok (.bipush 20, 2) := by decide +kernel
theorem rfdX7_init_75 : decode rfcX7_init 75 = .ok (.newarray .int, 2) := by decide +kernel
theorem rfdX7_init_77 : decode rfcX7_init 77 = .ok (.putfield 34, 3) := by decide +kernel
theorem rfdX7_init_80 : decode rfcX7_init 80 = .ok (.aload_n 0, 1) := by decide +kernel
theorem rfdX7_init_81 : decode rfcX7_init 81 = .ok (.getfield 7, 3) := by decide +kernel
theorem rfdX7_init_84 : decode rfcX7_init 84 = .ok (.iconst 1, 1) := by decide +kernel
theorem rfdX7_init_85 : decode rfcX7_init 85 = .ok (.iconst 3, 1) := by decide +kernel
theorem rfdX7_init_86 : decode rfcX7_init 86 = .ok (.iastore, 1) := by decide +kernel
theorem rfdX7_init_87 : decode rfcX7_init 87 = .ok (.iconst 0, 1) := by decide +kernel
theorem rfdX7_init_88 : decode rfcX7_init 88 = .ok (.istore_n 1, 1) := by decide +kernel
theorem rfdX7_init_89 : decode rfcX7_init 89 = .ok (.iload_n 1, 1) := by decide +kernel
theorem rfdX7_init_90 : decode rfcX7_init 90 = .ok (.bipush 10, 2) := by decide +kernel
theorem rfdX7_init_92 : decode rfcX7_init 92 = .ok (.if_icmp .ge 41, 3) := by decide +kernel
theorem rfdX7_init_95 : decode rfcX7_init 95 = .ok (.aload_n 0, 1) := by decide +kernel
theorem rfdX7_init_96 : decode rfcX7_init 96 = .ok (.getfield 7, 3) := by decide +kernel
theorem rfdX7_init_99 : decode rfcX7_init 99 = .ok (.iconst 2, 1) := by decide +kernel
theorem rfdX7_init_100 : decode rfcX7_init 100 = .ok (.iconst 2, 1) := by decide +kernel
theorem rfdX7_init_101 : decode rfcX7_init 101 = .ok (.iload_n 1, 1) := by decide +kernel
theorem rfdX7_init_102 : decode rfcX7_init 102 = .ok (.imul, 1) := by decide +kernel
theorem rfdX7_init_103 : decode rfcX7_init 103 = .ok (.iadd, 1) := by decide +kernel
theorem rfdX7_init_104 : decode rfcX7_init 104 = .ok (.iload_n 1, 1) := by decide +kernel
theorem rfdX7_init_105 : decode rfcX7_init 105 = .ok (.bipush 6, 2) := by decide +kernel
theorem rfdX7_init_107 : decode rfcX7_init 107 = .ok (.irem, 1) := by decide +kernel
theorem rfdX7_init_108 : decode rfcX7_init 108 = .ok (.iastore, 1) := by decide +kernel
theorem rfdX7_init_109 : decode rfcX7_init 109 = .ok (.aload_n 0, 1) := by decide +kernel
theorem rfdX7_init_110 : decode rfcX7_init 110 = .ok (.getfield 7, 3) := by decide +kernel
theorem rfdX7_init_113 : decode rfcX7_init 113 = .ok (.iconst 2, 1) := by decide +kernel
theorem rfdX7_init_114 : decode rfcX7_init 114 = .ok (.iconst 2, 1) := by decide +kernel
theorem rfdX7_init_115 : decode rfcX7_init 115 = .ok (.iload_n 1, 1) := by decide +kernel
theorem rfdX7_init_116 : decode rfcX7_init 116 = .ok (.imul, 1) := by decide +kernel
theorem rfdX7_init_117 : decode rfcX7_init 117 = .ok (.iadd, 1) := by decide +kernel
theorem rfdX7_init_118 : decode rfcX7_init 118 = .ok (.iconst 1, 1) := by decide +kernel
theorem rfdX7_init_119 : decode rfcX7_init 119 = .ok (.iadd, 1) := by decide +kernel
theorem rfdX7_init_120 : decode rfcX7_init 120 = .ok (.iload_n 1, 1) := by decide +kernel
theorem rfdX7_init_121 : decode rfcX7_init 121 = .ok (.iconst 1, 1) := by decide +kernel
theorem rfdX7_init_122 : decode rfcX7_init 122 = .ok (.iadd, 1) := by decide +kernel
theorem rfdX7_init_123 : decode rfcX7_init 123 = .ok (.bipush 6, 2) := by decide +kernel
theorem rfdX7_init_125 : decode rfcX7_init 125 = .ok (.irem, 1) := by decide +kernel
theorem rfdX7_init_126 : decode rfcX7_init 126 = .ok (.iastore, 1) := by decide +kernel
theorem rfdX7_init_127 : decode rfcX7_init 127 = .ok (.iinc 1 1, 3) := by decide +kernel
theorem rfdX7_init_130 : decode rfcX7_init 130 = .ok (.goto (-41), 3) := by decide +kernel
theorem rfdX7_init_133 : decode rfcX7_init 133 = .ok (.return_, 1) := by decide +kernel
theorem rfdX3_put_0 : decode rfcX3_put 0 = .ok (.iload_n 1, 1) := by decide +kernel
theorem rfdX3_put_1 : decode rfcX3_put 1 = .ok (.ifCond .lt 19, 3) := by decide +kernel
theorem rfdX3_put_4 : decode rfcX3_put 4 = .ok (.iload_n 1, 1) := by decide +kernel
theorem rfdX3_put_5 : decode rfcX3_put 5 = .ok (.aload_n 0, 1) := by decide +kernel
theorem rfdX3_put_6 : decode rfcX3_put 6 = .ok (.getfield 7, 3) := by decide +kernel
theorem rfdX3_put_9 : decode rfcX3_put 9 = .ok (.arraylength, 1) := by decide +kernel
theorem rfdX3_put_10 : decode rfcX3_put 10 = .ok (.if_icmp .ge 10, 3) := by decide +kernel
theorem rfdX3_put_13 : decode rfcX3_put 13 = .ok (.aload_n 0, 1) := by decide +kernel
theorem rfdX3_put_14 : decode rfcX3_put 14 = .ok (.getfield 7, 3) := by decide +kernel
theorem rfdX3_put_17 : decode rfcX3_put 17 = .ok (.iload_n 1, 1) := by decide +kernel
theorem rfdX3_put_18 : decode rfcX3_put 18 = .ok (.iload_n 2, 1) := by decide +kernel
theorem rfdX3_put_19 : decode rfcX3_put 19 = .ok (.iastore, 1) := by decide +kernel
theorem rfdX3_put_20 : decode rfcX3_put 20 = .ok (.return_, 1) := by decide +kernel
set_option maxRecDepth 100000 in
theorem rf_g_X4_init_X3_init : GoodIn rfwsX4_init rfwsX3_init := rf_goodIn_r _ [10, 11, 2, 3, 12, 13, 18] (by decide +kernel) (by decide +kernel)
set_option maxRecDepth 100000 in
theorem rf_g_X0_init_X3_init : GoodIn rfwsX0_init rfwsX3_init := rf_goodIn_r _ [13, 14, 2, 3, 15, 16, 21] (by decide +kernel) (by decide +kernel)
set_option maxRecDepth 100000 in
theorem rf_g_X1_init_X3_init : GoodIn rfwsX1_init rfwsX3_init := rf_goodIn_r _ [12, 13, 2, 3, 14, 15, 16] (by decide +kernel) (by decide +kernel)
set_option maxRecDepth 100000 in
theorem rf_g_X5_init_X3_init : GoodIn rfwsX5_init rfwsX3_init := rf_goodIn_r _ [11, 12, 2, 3, 13, 14, 15] (by decide +kernel) (by decide +kernel)
set_option maxRecDepth 100000 in
theorem rf_g_X6_init_X4_init : GoodIn rfwsX6_init rfwsX4_init := rf_goodIn_r _ [32, 33, 2, 3, 34, 25, 26, 35, 36, 37, 38, 39, 40, 41, 42, 43, 44, 45, 98, 79] (by decide +kernel) (by decide +kernel)
set_option maxRecDepth 100000 in
theorem rf_g_X6_init_X2_init : GoodIn rfwsX6_init rfwsX2_init := rf_goodIn_r _ [48, 49, 2, 3, 50, 88] (by decide +kernel) (by decide +kernel)
set_option maxRecDepth 100000 in
theorem rf_g_X6_init_X0_init : GoodIn rfwsX6_init rfwsX0_init := rf_goodIn_r _ [53, 54, 2, 3, 55, 56, 25, 26, 57, 58, 59, 60, 37, 38, 39, 40, 41, 89, 90, 91, 92, 98] (by decide +kernel) (by decide +kernel)
set_option maxRecDepth 100000 in
theorem rf_g_X6_init_X1_init : GoodIn rfwsX6_init rfwsX1_init := rf_goodIn_r _ [63, 64, 2, 3, 65, 25, 26, 66, 67, 68, 69, 37, 38, 39, 40, 41, 98, 93, 94, 95] (by decide +kernel) (by decide +kernel)
set_option maxRecDepth 100000 in
theorem rf_g_X6_init_X5_init : GoodIn rfwsX6_init rfwsX5_init := rf_goodIn_r _ [72, 73, 2, 3, 74, 25, 26, 75, 76, 77, 37, 38, 39, 40, 41, 98, 96, 97] (by decide +kernel) (by decide +kernel)
set_option maxRecDepth 100000 in
theorem rf_g_X6_init_X3_init : GoodIn rfwsX6_init rfwsX3_init := rf_goodIn_r _ [38, 39, 2, 3, 40, 41, 98] (by decide +kernel) (by decide +kernel)
set_option maxRecDepth 100000 in
theorem rf_g_X4_init_X3_put : GoodIn rfwsX4_init (wsV rfRX4 20 rfRX3 rfyX3_put rfwsX3_put) := rf_goodIn_r _ [14, 15, 16, 6, 17, 13, 18] (by decide +kernel) (by decide +kernel)
set_option maxRecDepth 100000 in
theorem rf_g_law_X6_init : GoodIn tables_1 rfwsX6_init := rf_goodIn_r _ [15, 16, 17, 18, 19, 20, 2, 110, 44, 45, 4, 111, 54, 55, 5, 112, 75, 76, 6, 113, 93, 94, 7, 114, 108, 26, 3, 115, 116, 117, 21, 22, 23, 24, 25, 40, 27, 28, 29, 30, 35, 31, 36, 37, 38, 39, 46, 47, 48, 49, 50, 56, 57, 58, 59, 62, 60, 63, 64, 65, 61, 77, 78, 79, 80, 81, 83, 84, 85, 82, 95, 96, 97, 98, 99, 101, 102, 100, 109, 41, 118, 120, 122, 124, 126, 128, 130, 132, 51, 66, 68, 70, 72, 86, 88, 90, 103, 105, 32] (by decide +kernel) (by decide +kernel)
set_option maxRecDepth 100000 in
theorem rf_g_law_X7_init : GoodIn tables_1 rfwsX7_init := rf_goodIn_r _ [563, 564, 17, 18, 35, 565, 566, 567, 569, 571, 572, 576, 577, 578, 579, 581, 583, 585, 587, 589, 591, 593, 595, 597, 599, 601, 603, 605] (by decide +kernel) (by decide +kernel)
theorem rf_yd_X0_init : rfyX0_init.cls ≠ "java/lang/invoke/MethodHandle" ∧ rfyX0_init.cls ≠ "java/lang/invoke/VarHandle" ∧ (parseMethodDescriptor rfyX0_init.desc).map (fun d => d.parameters.length) = some 1 := by decide +kernel
theorem rf_yd_X1_init : rfyX1_init.cls ≠ "java/lang/invoke/MethodHandle" ∧ rfyX1_init.cls ≠ "java/lang/invoke/VarHandle" ∧ (parseMethodDescriptor rfyX1_init.desc).map (fun d => d.parameters.length) = some 0 := by decide +kernel
theorem rf_yd_X2_init : rfyX2_init.cls ≠ "java/lang/invoke/MethodHandle" ∧ rfyX2_init.cls ≠ "java/lang/invoke/VarHandle" ∧ (parseMethodDescriptor rfyX2_init.desc).map (fun d => d.parameters.length) = some 1 := by decide +kernel
theorem rf_yd_X3_init : rfyX3_init.cls ≠ "java/lang/invoke/MethodHandle" ∧ rfyX3_init.cls ≠ "java/lang/invoke/VarHandle" ∧ (parseMethodDescriptor rfyX3_init.desc).map (fun d => d.parameters.length) = some 1 := by decide +kernel
theorem rf_yd_X4_init : rfyX4_init.cls ≠ "java/lang/invoke/MethodHandle" ∧ rfyX4_init.cls ≠ "java/lang/invoke/VarHandle" ∧ (parseMethodDescriptor rfyX4_init.desc).map (fun d => d.parameters.length) = some 0 := by decide +kernel
theorem rf_yd_X5_init : rfyX5_init.cls ≠ "java/lang/invoke/MethodHandle" ∧ rfyX5_init.cls ≠ "java/lang/invoke/VarHandle" ∧ (parseMethodDescriptor rfyX5_init.desc).map (fun d => d.parameters.length) = some 0 := by decide +kernel
theorem rf_yd_X6_init : rfyX6_init.cls ≠ "java/lang/invoke/MethodHandle" ∧ rfyX6_init.cls ≠ "java/lang/invoke/VarHandle" ∧ (parseMethodDescriptor rfyX6_init.desc).map (fun d => d.parameters.length) = some 0 := by decide +kernel
theorem rf_yd_X7_init : rfyX7_init.cls ≠ "java/lang/invoke/MethodHandle" ∧ rfyX7_init.cls ≠ "java/lang/invoke/VarHandle" ∧ (parseMethodDescriptor rfyX7_init.desc).map (fun d => d.parameters.length) = some 0 := by decide +kernel
theorem rf_yd_X3_put : rfyX3_put.cls = rfRX3 ∧ rfyX3_put.cls ≠ "java/lang/invoke/MethodHandle" ∧ rfyX3_put.cls ≠ "java/lang/invoke/VarHandle" ∧ (parseMethodDescriptor rfyX3_put.desc).map (fun d => d.parameters.length) = some 2 := by decide +kernel
set_option maxRecDepth 100000 in
theorem rf_in_X0_init_X0 : ∀ w ∈ rfwsX00, w ∈ rfwsX0_init := fun w h => (rf_goodIn_r (big := rfwsX0_init) rfwsX00 [17, 18, 19, 20] (by decide +kernel) (by decide +kernel) w h).1
set_option maxRecDepth 100000 in
theorem rf_in_X0_init_X3 : ∀ w ∈ rfwsX30, w ∈ rfwsX0_init := fun w h => (rf_goodIn_r (big := rfwsX0_init) rfwsX30 [21] (by decide +kernel) (by decide +kernel) w h).1
set_option maxRecDepth 100000 in
theorem rf_in_X1_init_X1 : ∀ w ∈ rfwsX10, w ∈ rfwsX1_init := fun w h => (rf_goodIn_r (big := rfwsX1_init) rfwsX10 [17, 18, 19] (by decide +kernel) (by decide +kernel) w h).1
set_option maxRecDepth 100000 in
theorem rf_in_X1_init_X3 : ∀ w ∈ rfwsX30, w ∈ rfwsX1_init := fun w h => (rf_goodIn_r (big := rfwsX1_init) rfwsX30 [16] (by decide +kernel) (by decide +kernel) w h).1
set_option maxRecDepth 100000 in
theorem rf_in_X2_init_X2 : ∀ w ∈ rfwsX20, w ∈ rfwsX2_init := fun w h => (rf_goodIn_r (big := rfwsX2_init) rfwsX20 [5] (by decide +kernel) (by decide +kernel) w h).1
set_option maxRecDepth 100000 in
theorem rf_in_X3_init_X3 : ∀ w ∈ rfwsX30, w ∈ rfwsX3_init := fun w h => (rf_goodIn_r (big := rfwsX3_init) rfwsX30 [6] (by decide +kernel) (by decide +kernel) w h).1
set_option maxRecDepth 100000 in
theorem rf_in_X4_init_X3 : ∀ w ∈ rfwsX30, w ∈ rfwsX4_init := fun w h => (rf_goodIn_r (big := rfwsX4_init) rfwsX30 [18] (by decide +kernel) (by decide +kernel) w h).1
set_option maxRecDepth 100000 in
theorem rf_in_X4_init_X4 : ∀ w ∈ rfwsX40, w ∈ rfwsX4_init := fun w h => (rf_goodIn_r (big := rfwsX4_init) rfwsX40 [19] (by decide +kernel) (by decide +kernel) w h).1
set_option maxRecDepth 100000 in
theorem rf_in_X5_init_X3 : ∀ w ∈ rfwsX30, w ∈ rfwsX5_init := fun w h => (rf_goodIn_r (big := rfwsX5_init) rfwsX30 [15] (by decide +kernel) (by decide +kernel) w h).1
set_option maxRecDepth 100000 in
theorem rf_in_X5_init_X5 : ∀ w ∈ rfwsX50, w ∈ rfwsX5_init := fun w h => (rf_goodIn_r (big := rfwsX5_init) rfwsX50 [16, 17] (by decide +kernel) (by decide +kernel) w h).1
set_option maxRecDepth 100000 in
theorem rf_in_X6_init_X0 : ∀ w ∈ rfwsX00, w ∈ rfwsX6_init := fun w h => (rf_goodIn_r (big := rfwsX6_init) rfwsX00 [89, 90, 91, 92] (by decide +kernel) (by decide +kernel) w h).1
set_option maxRecDepth 100000 in
theorem rf_in_X6_init_X1 : ∀ w ∈ rfwsX10, w ∈ rfwsX6_init := fun w h => (rf_goodIn_r (big := rfwsX6_init) rfwsX10 [93, 94, 95] (by decide +kernel) (by decide +kernel) w h).1
set_option maxRecDepth 100000 in
theorem rf_in_X6_init_X2 : ∀ w ∈ rfwsX20, w ∈ rfwsX6_init := fun w h => (rf_goodIn_r (big := rfwsX6_init) rfwsX20 [88] (by decide +kernel) (by decide +kernel) w h).1
set_option maxRecDepth 100000 in
theorem rf_in_X6_init_X3 : ∀ w ∈ rfwsX30, w ∈ rfwsX6_init := fun w h => (rf_goodIn_r (big := rfwsX6_init) rfwsX30 [98] (by decide +kernel) (by decide +kernel) w h).1
set_option maxRecDepth 100000 in
theorem rf_in_X6_init_X4 : ∀ w ∈ rfwsX40, w ∈ rfwsX6_init := fun w h => (rf_goodIn_r (big := rfwsX6_init) rfwsX40 [79] (by decide +kernel) (by decide +kernel) w h).1
set_option maxRecDepth 100000 in
theorem rf_in_X6_init_X5 : ∀ w ∈ rfwsX50, w ∈ rfwsX6_init := fun w h => (rf_goodIn_r (big := rfwsX6_init) rfwsX50 [96, 97] (by decide +kernel) (by decide +kernel) w h).1
set_option maxRecDepth 100000 in
theorem rf_in_X6_init_X6 : ∀ w ∈ rfwsX60, w ∈ rfwsX6_init := fun w h => (rf_goodIn_r (big := rfwsX6_init) rfwsX60 [80, 81, 82, 83, 84, 85, 86, 87] (by decide +kernel) (by decide +kernel) w h).1
set_option maxRecDepth 100000 in
theorem rf_in_X7_init_X7 : ∀ w ∈ rfwsX70, w ∈ rfwsX7_init := fun w h => (rf_goodIn_r (big := rfwsX7_init) rfwsX70 [14, 15, 16, 17, 18, 19, 20, 21, 22, 23, 24, 25, 26, 27] (by decide +kernel) (by decide +kernel) w h).1
set_option maxRecDepth 100000 in
theorem rf_in_X3_put_X3 : ∀ w ∈ rfwsX30, w ∈ rfwsX3_put := fun w h => (rf_goodIn_r (big := rfwsX3_put) rfwsX30 [2] (by decide +kernel) (by decide +kernel) w h).1
set_option maxRecDepth 100000 in
theorem rf_in_law_X0 : ∀ w ∈ rfwsX00, w ∈ tables_1 := fun w h => (rf_goodIn_r (big := tables_1) rfwsX00 [66, 68, 70, 72] (by decide +kernel) (by decide +kernel) w h).1
set_option maxRecDepth 100000 in
theorem rf_in_law_X1 : ∀ w ∈ rfwsX10, w ∈ tables_1 := fun w h => (rf_goodIn_r (big := tables_1) rfwsX10 [86, 88, 90] (by decide +kernel) (by decide +kernel) w h).1
set_option maxRecDepth 100000 in
theorem rf_in_law_X2 : ∀ w ∈ rfwsX20, w ∈ tables_1 := fun w h => (rf_goodIn_r (big := tables_1) rfwsX20 [51] (by decide +kernel) (by decide +kernel) w h).1
set_option maxRecDepth 100000 in
theorem rf_in_law_X3 : ∀ w ∈ rfwsX30, w ∈ tables_1 := fun w h => (rf_goodIn_r (big := tables_1) rfwsX30 [32] (by decide +kernel) (by decide +kernel) w h).1
set_option maxRecDepth 100000 in
theorem rf_in_law_X4 : ∀ w ∈ rfwsX40, w ∈ tables_1 := fun w h => (rf_goodIn_r (big := tables_1) rfwsX40 [41] (by decide +kernel) (by decide +kernel) w h).1
set_option maxRecDepth 100000 in
theorem rf_in_law_X5 : ∀ w ∈ rfwsX50, w ∈ tables_1 := fun w h => (rf_goodIn_r (big := tables_1) rfwsX50 [103, 105] (by decide +kernel) (by decide +kernel) w h).1
set_option maxRecDepth 100000 in
theorem rf_in_law_X6 : ∀ w ∈ rfwsX60, w ∈ tables_1 := fun w h => (rf_goodIn_r (big := tables_1) rfwsX60 [118, 120, 122, 124, 126, 128, 130, 132] (by decide +kernel) (by decide +kernel) w h).1
set_option maxRecDepth 100000 in
theorem rf_in_law_X7 : ∀ w ∈ rfwsX70, w ∈ tables_1 := fun w h => (rf_goodIn_r (big := tables_1) rfwsX70 [579, 581, 583, 585, 587, 589, 591, 593, 595, 597, 599, 601, 603, 605] (by decide +kernel) (by decide +kernel) w h).1
end
section
abbrev rf_cl : List vw_C := [(rfRX0, rfTX0, 4), (rfRX1, rfTX1, 3), (rfRX2, rfTX2, 1), (rfRX3, rfTX3, 1), (rfRX4, rfTX4, 1), (rfRX5, rfTX5, 2), (rfRX6, rfTX6, 8), (rfRX7, rfTX7, 14)]
/-! base: a contract of a method that makes cells, over a world of cells; calls; what an end that is framed can't hold -/
abbrev rf_Z : Nat → Int32 := fun _ => 0
def rf_P (D : va_G) (cA : ClassId) (av : List Value) (sz : Nat) (wc : va_W) : Array Value → State → Prop := va_Pc av (fun U => U.heap.size = sz ∧ va_P D rf_cl wc U.heap ∧ va_K D rf_cl [(cA, .int)] U ∧ va_D (fun _ => True) wc)
theorem rf_P_blind {D : va_G} {cA : ClassId} {av : List Value} {sz : Nat} {wc : va_W} : FrameBlind (rf_P D cA av sz wc) := fun a U g mk q => by
  obtain ⟨q0, q1, qP, qK, qD⟩ := q
  exact ⟨q0, q1, qP, va_K.moved (u := U) (U := U.calling g mk a) (Vm.Alike.refl U.vm) qK, qD⟩
theorem rf_P_at {D : va_G} {cA : ClassId} {av : List Value} {wc : va_W} {H : Heap} {s : State} {A : Nat → Prop} (hP : va_P D rf_cl wc H) (hK : va_K D rf_cl [(cA, .int)] s) (hD : va_D A wc) : ∀ U : State, U.heap = H → s.WarmedH U.vm → rf_P D cA av H.size wc av.toArray U :=
  fun U hU hW => ⟨rfl, by rw [hU], by rw [hU]; exact hP, va_K.moved hW.alike hK, hD.weaken (fun _ _ _ _ => trivial)⟩
def rf_M (l : Launch) (D : va_G) (cA : ClassId) (y : MethodName) (ws : List Cond) (rm : Room) (av : List Value) (wc : va_W) (mc ms : Nat) {S : Type} (w' : S → va_W) : Prop :=
  ∀ sz : Nat, Met l y ws rm (rf_P D cA av sz wc) (va_Qv (fun _ : S => True) (fun u t => va_P D rf_cl (w' u) t.heap ∧ va_D (va_A wc sz) (w' u)) (va_A wc sz)) mc ms (va_A wc sz)
theorem rf_of {l : Launch} {D : va_G} {cA : ClassId} {y : MethodName} {ws ws' : List Cond} {rm : Room} {av : List Value} {wc : va_W} {mc ms : Nat} {S : Type} {w' : S → va_W} {cc : ByteArray} {maxL : Nat}
    (hy : plainName y.cls = true) (hw : ws = Cond.code y cc maxL none :: ws') (hlen : (lg_sl av).length ≤ maxL)
    (body : ∀ (p : Program) (e : Env) (s : State) (m : MethodId) (args : Array Value) (below : List Frame) (meth : Method) (c : Code) (Q : State → Prop) (A : Nat → Prop) (ls : Array Slot), CallFix p m c cc maxL s args ws y.cls → meth.name = y.name → va_K D rf_cl [(cA, .int)] s → va_P D rf_cl wc s.heap → va_D A wc → (∀ q : Nat, s.heap.size ≤ q → A q) → va_S A s.heap s.heap [] → lv_has ls maxL (lv_args 0 av) →
      (∀ (H : Heap) (locs : List Loc) (pc : Nat) (ls : Array Slot) (u : S), decode cc pc = .ok (.return_, 1) → va_P D rf_cl (w' u) H → va_D A (w' u) → va_S A s.heap H locs → W p l e rm s m args below meth c H locs mc ms Q (F0 m pc ls [])) →
      W p l e rm s m args below meth c s.heap [] 0 0 Q (F0 m 0 ls [])) : rf_M l D cA y ws rm av wc mc ms w' := by
  intro sz
  refine Met.ofW (cc := cc) (maxL := maxL) (ret := none) hy hw ?_
  intro p e s m args below meth c s₁ B hml hv
  obtain ⟨rfl, hsz, hP, hK, hD0⟩ := hv
  subst hsz
  have hts := atoms_spec (ws := ws) B.pre
  have hown : s.vm.findClass y.cls = some m.cls := findClass_of_methodNamed B.named
  have hin : meth.name = y.name := (name_of_methodNamed B.named B.method).1
  have hlocks := B.notSynchronized
  have hl := lv_entry av (n := maxL) hlen
  rw [lg_entry_eq]
  refine body p e s m _ below meth c _ (va_A wc s.heap.size) _ ⟨B.exec, B.bytes, hml, hown, hts⟩ hin hK hP hD0.self (fun q h => Or.inr h) va_S.rf hl ?_
  intro H locs pc ls u hd hP' hD' hS'
  exact W.vret B.exec B.bytes B.returns (fun t ht hW => ⟨⟨u, rfl, trivial, by rw [ht]; exact hP', hD'⟩, hS'.F ht⟩) hS'.2.2 hd hlocks
section RFC
variable {p : Program} {l : Launch} {e : Env} {R : Room} {s : State} {m : MethodId} {args : Array Value} {below : List Frame} {meth : Method} {c : Code} {H : Heap} {locs : List Loc} {Q : State → Prop} {cells slots : Nat}
variable {cc : ByteArray} {nL pc : Nat} {ls : Array Slot} {rest st0 : List Value} {D : va_G} {cA : ClassId} {A : Nat → Prop} {wm wc wr : va_W} {Ts wsY : List Cond} {rmY : Room} {y : MethodName} {bytes : ByteArray} {maxL index n mc ms : Nat} {own : String} {b : Addr} {As : List Value} {S : Type}
theorem rf_sub (hP : va_P D rf_cl wm H) {isC : List Nat} (hC : isC.map (fun i => wm[i]?) = wc.map some) : va_P D rf_cl wc H := by
  intro k q hk
  have h4 : (isC.map (fun i => wm[i]?))[k]? = some (some q) := by rw [hC, List.getElem?_map, hk]; rfl
  rw [List.getElem?_map] at h4
  cases hi : isC[k]? with
  | none => rw [hi] at h4; cases h4
  | some i => rw [hi] at h4; exact hP i q (Option.some.inj h4)
theorem rf_call {w' : S → va_W} (F : CallFix p m c cc nL s args Ts own) (hM : rf_M l D cA y wsY rmY (.ref b :: As) wc mc ms w') (cw : CallB R s args own index y bytes maxL none wsY rmY mc ms n ∧ y.name = "<init>" ∧ (Cond.instanceMethod y).before args s = true)
    (hK : va_K D rf_cl [(cA, .int)] s) (hP : va_P D rf_cl wm H) (hD : va_D A wm) (hA : ∀ q, s.heap.size ≤ q → A q) (hS : va_S A s.heap H locs) (isC isR : List Nat)
    (hC : isC.map (fun i => wm[i]?) = wc.map some) (hR : isR.map (fun i => wm[i]?) = wr.map some) (hnC : va_nd isC = true) (hnR : va_nd isR = true) (hdis : ∀ i ∈ isR, i ∉ isC)
    (hn : As.length = n) (hl : ls.size = nL) (hst : st0 = As.reverse ++ .ref b :: rest) (hW : (rest.map fun v => v.category).sum ≤ 8) (hdg : decode cc pc = .ok (.invokespecial index, 3)) (hcs : cells + mc ≤ R.cells ∧ slots + ms ≤ R.slots)
    (kk : ∀ (u : S) (H1 : Heap) (locs1 : List Loc), va_P D rf_cl (wr ++ w' u) H1 → va_D A (wr ++ w' u) → va_S A s.heap H1 locs1 → W p l e R s m args below meth c H1 locs1 (cells + mc) (slots + ms) Q (F0 m (pc + 3) ls rest)) :
    W p l e R s m args below meth c H locs cells slots Q (F0 m pc ls st0) := by
  have hF := va_free (wc := wc) hD hS hA isC hC
  refine va_callv (va_runI (As := As) (rest := rest) F (hM H.size) cw ⟨rf_P_blind, rf_P_at (rf_sub hP hC) hK (hD.sub isC hnC hC)⟩ rfl hn hl hst (by show 2 * 0 + _ ≤ 8; omega) hdg hcs) hS (fun q _ h => hF q h) hF (fun u t H1 locs1 ht hvm hw hB hz hk hS1 => ?_)
  obtain ⟨hP1, hD1⟩ := hB
  rw [ht] at hP1
  obtain ⟨h1, h2⟩ := va_join hP hD isC isR hC hR hnR hdis hk hF hP1 hD1
  exact kk u H1 locs1 h1 h2 hS1
theorem rf_callV {w' : S → va_W} {q : vw_C} {fs : List Value} (F : CallFix p m c cc nL s args Ts own) (hM : rf_M l D cA y wsY rmY (.ref b :: As) wc mc ms w') {ret : Option FieldType} (cw : CallW R s args own q.1 index y bytes maxL ret wsY rmY mc ms n)
    (hK : va_K D rf_cl [(cA, .int)] s) (hP : va_P D rf_cl wm H) (hD : va_D A wm) (hA : ∀ q, s.heap.size ≤ q → A q) (hS : va_S A s.heap H locs) (isC isR : List Nat)
    (hC : isC.map (fun i => wm[i]?) = wc.map some) (hR : isR.map (fun i => wm[i]?) = wr.map some) (hnC : va_nd isC = true) (hnR : va_nd isR = true) (hdis : ∀ i ∈ isR, i ∉ isC) (q0 ci : Nat) (hci : rf_cl[ci]? = some q) (hq0 : wm[q0]? = some (b, .inr (ci, fs)))
    (hn : As.length = n) (hl : ls.size = nL) (hst : st0 = As.reverse ++ .ref b :: rest) (hW : (rest.map fun v => v.category).sum ≤ 8) (hdg : decode cc pc = .ok (.invokevirtual index, 3)) (hcs : cells + mc ≤ R.cells ∧ slots + ms ≤ R.slots)
    (kk : ∀ (u : S) (H1 : Heap) (locs1 : List Loc), va_P D rf_cl (wr ++ w' u) H1 → va_D A (wr ++ w' u) → va_S A s.heap H1 locs1 → W p l e R s m args below meth c H1 locs1 (cells + mc) (slots + ms) Q (F0 m (pc + 3) ls rest)) :
    W p l e R s m args below meth c H locs cells slots Q (F0 m pc ls st0) := by
  have hF := va_free (wc := wc) hD hS hA isC hC
  refine va_callv (va_runV (As := As) (rest := rest) (C := q.1) F (hM H.size) cw ⟨rf_P_blind, va_recv hK hP hci hq0, rf_P_at (rf_sub hP hC) hK (hD.sub isC hnC hC)⟩ rfl hn hl hst (by show 2 * 0 + _ ≤ 8; omega) hdg hcs) hS (fun q _ h => hF q h) hF (fun u t H1 locs1 ht hvm hw hB hz hk hS1 => ?_)
  obtain ⟨hP1, hD1⟩ := hB
  rw [ht] at hP1
  obtain ⟨h1, h2⟩ := va_join hP hD isC isR hC hR hnR hdis hk hF hP1 hD1
  exact kk u H1 locs1 h1 h2 hS1
theorem rf_newa {H0 : Heap} (hexec : p.tables.exec = Jvm.exec) (hb : c.code = cc) (harr : (Cond.arrayClass .int).before args s = true) (hK : va_K D rf_cl [(cA, .int)] s) (hP : va_P D rf_cl wm H) (hD : va_D A wm) (hS : va_S A H0 H locs) (hA : ∀ q, H0.size ≤ q → A q)
    {x : Int32} {N : Nat} (hx0 : ¬ x < 0) (hN : x.toNatClampNeg = N) (hbytes : N * 4 ≤ 536870912) (hcells : cells + 1 ≤ R.cells) (hslots : slots + N ≤ R.slots) (hdg : decode cc pc = .ok (.newarray .int, 2))
    (kk : ∀ (q : Nat) (H1 : Heap), va_P D rf_cl (wm ++ [(q, .inl (cA, N, .inl rf_Z))]) H1 → va_D A (wm ++ [(q, .inl (cA, N, .inl rf_Z))]) → va_S A H0 H1 locs → W p l e R s m args below meth c H1 locs (cells + 1) (slots + N) Q (F0 m (pc + 2) ls (.ref q :: rest))) :
    W p l e R s m args below meth c H locs cells slots Q (F0 m pc ls (.int x :: rest)) := by
  refine va_newa (atype := .int) (ty := .int) (a0 := (N, .inl rf_Z)) hexec hb harr rfl hK hP hD hS hA (fun cB => rfl) hx0 hN hbytes hcells hslots hdg (fun q cB H1 hK1 hP1 hD1 hS1 => ?_)
  have h1 := (hK1.2 1 _ rfl).2
  have h2 := (hK1.2 0 _ rfl).2
  have hc : cB = cA := Option.some.inj (h1.symm.trans h2)
  rw [hc] at hP1 hD1
  exact kk q H1 hP1 hD1 hS1
end RFC
theorem rf_in {i : Int32} {n : Nat} (hn : n < 2 ^ 31) (h0 : ¬ i < 0) (h1 : ¬ nI n ≤ i) : vp_in i n := by
  obtain ⟨j, hj, rfl⟩ := nI_of h0
  have h2 : j < n := Nat.lt_of_not_le (fun h => h1 (nI_le h hj))
  exact vp_in_nI h2 hn
theorem rf_sum1 : ∀ (L : List Cell) (i : Nat) (a : Cell), L[i]? = some a → a.slots.size ≤ (L.map (·.slots.size)).sum
  | [], i, a, h => by simp at h
  | x :: L, 0, a, h => by
    have h4 : x = a := by simpa using h
    subst h4
    simp
  | x :: L, i + 1, a, h => by
    have h3 := rf_sum1 L i a (by simpa using h)
    simp
    omega
theorem rf_sum2 : ∀ (L : List Cell) (i j : Nat) (a b : Cell), i ≠ j → L[i]? = some a → L[j]? = some b → a.slots.size + b.slots.size ≤ (L.map (·.slots.size)).sum
  | [], i, j, a, b, _, h, _ => by simp at h
  | x :: L, 0, 0, a, b, hn, _, _ => absurd rfl hn
  | x :: L, 0, j + 1, a, b, _, h1, h2 => by
    have h3 := rf_sum1 L j b (by simpa using h2)
    have h4 : x = a := by simpa using h1
    subst h4
    simp
    omega
  | x :: L, i + 1, 0, a, b, _, h1, h2 => by
    have h3 := rf_sum1 L i a (by simpa using h1)
    have h4 : x = b := by simpa using h2
    subst h4
    simp
    omega
  | x :: L, i + 1, j + 1, a, b, hn, h1, h2 => by
    have h3 := rf_sum2 L i j a b (fun h => hn (by rw [h])) (by simpa using h1) (by simpa using h2)
    simp
    omega
set_option maxHeartbeats 4000000 in
set_option maxRecDepth 100000 in
theorem rf_c_X3_init (l : Launch) (D : va_G) (cA : ClassId) (h0 n : Nat) (h1 : 0 < n) (h2 : n < 100000) : rf_M l D cA rfyX3_init rfwsX3_init { frames := 1, cells := 1, slots := n, locals := 20 } [.ref h0, .int (nI n)] [(h0, .inr (3, [.null]))] 1 n (S := Nat) (fun z => [(h0, .inr (3, [.ref z])), (z, .inl (cA, n, .inl rf_Z))]) := by
  refine rf_of (cc := rfcX3_init) (maxL := 2) (by decide) rfl (Nat.le_of_ble_eq_true rfl) ?_
  intro p e s m args below meth c Q A ls F hin hK hP hD hA hS hl RET
  obtain ⟨hx, hb, hml, hown, hts⟩ := id F
  have hl : lv_has ls 2 [(0, .ref h0), (1, .int (nI n))] := hl
  refine lv_aload_n hx hb rfdX3_init_0 rfl (lv_at hl 0 rfl) ?_
  refine W.objInit hx hb hown (hts _ (List.mem_of_getElem? (i := 1) rfl)) (hts _ (List.mem_of_getElem? (i := 2) rfl)) (hts _ (List.mem_of_getElem? (i := 3) rfl)) rfl (by rw [hml]; exact hl.1) rfl rfdX3_init_1 (Nat.le_of_ble_eq_true rfl) (Nat.le_of_ble_eq_true rfl) ?_
  refine W.eq (g2 := F0 m 4 ls []) rfl ?_
  refine lv_aload_n hx hb rfdX3_init_4 rfl (lv_at hl 0 rfl) ?_
  refine lv_iload_n hx hb rfdX3_init_5 rfl (lv_at hl 1 rfl) ?_
  refine lv_if_le (tgt := 13) hx hb rfdX3_init_6 (by decide) (fun h3 => absurd h3 (nI_nle h1 (by omega))) (fun h3 => ?_)
  refine lv_iload_n hx hb rfdX3_init_9 rfl (lv_at hl 1 rfl) ?_
  refine lv_goto (tgt := 14) hx hb rfdX3_init_10 (by decide) ?_
  refine rf_newa (N := n) hx hb (hts _ (List.mem_of_getElem? (i := 4) rfl)) hK hP hD hS hA (nI_pos (by omega)) (nI_clamp (by omega)) (by omega) (Nat.le_of_ble_eq_true rfl) (by show 0 + n ≤ n; omega) rfdX3_init_14 (fun z H hP hD hS => ?_)
  have hP : va_P D rf_cl [(h0, .inr (3, [.null])), (z, .inl (cA, n, .inl rf_Z))] H := hP
  have hD : va_D A [(h0, .inr (3, [.null])), (z, .inl (cA, n, .inl rf_Z))] := hD
  refine W.widen (k := 1) (n := n) (Nat.le_of_ble_eq_true rfl) (by omega) ?_
  refine va_putF (D := D) (ci := 3) (v := .ref z) (ty := .array .int) (C := rfRX3) (T := rfTX3) (N := 1) hx hb hts rf_in_X3_init_X3 rftyX3 rftyX3_ok rfnmX3 hown hK hP hD hS 0 rfl rfl 0 (by decide) (hts _ (List.mem_of_getElem? (i := 5) rfl)) (fun _ h9 => h9) rfl hin rfl (by decide +kernel) rfl rfl (Nat.le_of_ble_eq_true rfl) rfdX3_init_16 (fun H locs hP hD hS => ?_)
  have hP : va_P D rf_cl [(h0, .inr (3, [.ref z])), (z, .inl (cA, n, .inl rf_Z))] H := hP
  have hD : va_D A [(h0, .inr (3, [.ref z])), (z, .inl (cA, n, .inl rf_Z))] := hD
  exact RET _ _ _ _ z rfdX3_init_19 (hP.sub [0, 1] rfl) (hD.sub [0, 1] (by decide) rfl) hS
set_option maxHeartbeats 4000000 in
set_option maxRecDepth 100000 in
theorem rf_c_X3_put (l : Launch) (D : va_G) (cA : ClassId) (h0 h1 n : Nat) (f : Nat → Int32) (i v : Int32) (hn : n < 2 ^ 31) : rf_M l D cA rfyX3_put rfwsX3_put { frames := 0, cells := 0, slots := 0, locals := 0 } [.ref h0, .int i, .int v] [(h0, .inr (3, [.ref h1])), (h1, .inl (cA, n, .inl f))] 0 0 (S := Nat → Int32) (fun g => [(h0, .inr (3, [.ref h1])), (h1, .inl (cA, n, .inl g))]) := by
  refine rf_of (cc := rfcX3_put) (maxL := 3) (by decide) rfl (Nat.le_of_ble_eq_true rfl) ?_
  intro p e s m args below meth c Q A ls F hin hK hP hD hA hS hl RET
  obtain ⟨hx, hb, hml, hown, hts⟩ := id F
  have hl : lv_has ls 3 [(0, .ref h0), (1, .int i), (2, .int v)] := hl
  refine lv_iload_n hx hb rfdX3_put_0 rfl (lv_at hl 1 rfl) ?_
  refine lv_if_lt (tgt := 20) hx hb rfdX3_put_1 (by decide) (fun h3 => ?_) (fun h3 => ?_)
  · exact RET _ _ _ _ f rfdX3_put_20 hP hD hS
  · refine lv_iload_n hx hb rfdX3_put_4 rfl (lv_at hl 1 rfl) ?_
    refine lv_aload_n hx hb rfdX3_put_5 rfl (lv_at hl 0 rfl) ?_
    refine va_get (D := D) (ci := 3) (v := .ref h1) (C := rfRX3) (T := rfTX3) (N := 1) hx hb hts rf_in_X3_put_X3 hown hK hP 0 rfl rfl 0 (by decide) (hts _ (List.mem_of_getElem? (i := 1) rfl)) (fun _ h9 => h9) rfl rfdX3_put_6 ?_
    refine va_alen (v := nI n) hx hb hK hP 1 0 rfl rfl rfl rfdX3_put_9 ?_
    refine lv_icmp_ge (tgt := 20) hx hb rfdX3_put_10 (by decide) (fun h4 => ?_) (fun h4 => ?_)
    · exact RET _ _ _ _ f rfdX3_put_20 hP hD hS
    · refine lv_aload_n hx hb rfdX3_put_13 rfl (lv_at hl 0 rfl) ?_
      refine va_get (D := D) (ci := 3) (v := .ref h1) (C := rfRX3) (T := rfTX3) (N := 1) hx hb hts rf_in_X3_put_X3 hown hK hP 0 rfl rfl 0 (by decide) (hts _ (List.mem_of_getElem? (i := 1) rfl)) (fun _ h9 => h9) rfl rfdX3_put_14 ?_
      refine lv_iload_n hx hb rfdX3_put_17 rfl (lv_at hl 1 rfl) ?_
      refine lv_iload_n hx hb rfdX3_put_18 rfl (lv_at hl 2 rfl) ?_
      refine va_iast hx hb hK hP hD hS 1 0 rfl rfl (rf_in hn h3 h4) rfdX3_put_19 (fun H locs hP hD hS => ?_)
      exact RET _ _ _ _ _ rfdX3_put_20 hP hD hS
set_option maxHeartbeats 4000000 in
set_option maxRecDepth 100000 in
theorem rf_c_X4_init (l : Launch) (D : va_G) (cA : ClassId) (h0 : Nat) : rf_M l D cA rfyX4_init rfwsX4_init { frames := 2, cells := 2, slots := 287, locals := 41 } [.ref h0] [(h0, .inr (4, [.null]))] 2 287 (S := Unit) (fun _ => []) := by
  refine rf_of (cc := rfcX4_init) (maxL := 2) (by decide) rfl (Nat.le_of_ble_eq_true rfl) ?_
  intro p e s m args below meth c Q A ls F hin hK hP hD hA hS hl RET
  obtain ⟨hx, hb, hml, hown, hts⟩ := id F
  have hl : lv_has ls 2 [(0, .ref h0)] := hl
  refine lv_aload_n hx hb rfdX4_init_0 rfl (lv_at hl 0 rfl) ?_
  refine W.objInit hx hb hown (hts _ (List.mem_of_getElem? (i := 1) rfl)) (hts _ (List.mem_of_getElem? (i := 2) rfl)) (hts _ (List.mem_of_getElem? (i := 3) rfl)) rfl (by rw [hml]; exact hl.1) rfl rfdX4_init_1 (Nat.le_of_ble_eq_true rfl) (Nat.le_of_ble_eq_true rfl) ?_
  refine W.eq (g2 := F0 m 4 ls []) rfl ?_
  refine lv_aload_n hx hb rfdX4_init_4 rfl (lv_at hl 0 rfl) ?_
  refine va_new (ci := 3) (fs := [.null]) (C := rfRX3) (T := rfTX3) (N := 1) hx hb hts rf_in_X4_init_X3 rftyX3 rftyX3_ok hown (hts _ (List.mem_of_getElem? (i := 4) rfl)) (hts _ (List.mem_of_getElem? (i := 5) rfl)) (hts _ (List.mem_of_getElem? (i := 6) rfl)) hK hP hD hS hA rfl (fun j hj => by rcases (show j = 0 by omega) with rfl <;> rfl) (Nat.le_of_ble_eq_true rfl) (Nat.le_of_ble_eq_true rfl) rfdX4_init_5 (fun q5 H hP hD hS => ?_)
  have hP : va_P D rf_cl [(h0, .inr (4, [.null])), (q5, .inr (3, [.null]))] H := hP
  have hD : va_D A [(h0, .inr (4, [.null])), (q5, .inr (3, [.null]))] := hD
  refine W.widen (k := 1) (n := 1) (Nat.le_of_ble_eq_true rfl) (Nat.le_of_ble_eq_true rfl) ?_
  refine lv_dup hx hb rfdX4_init_8 rfl ?_
  refine lv_sipush (v := (nI 286)) hx hb rfdX4_init_9 (by decide) ?_
  refine rf_call (wr := [(h0, .inr (4, [.null]))]) (As := [.int (nI 286)]) (rest := [.ref q5, .ref h0]) ⟨hx, hb, hml, hown, hts⟩ (rf_c_X3_init l D cA q5 286 (by decide) (by decide)) (cwI 1 hts rf_g_X4_init_X3_init rfl rfl rfl (hts _ (List.mem_of_getElem? (i := 6) rfl)) (hts _ (List.mem_of_getElem? (i := 8) rfl)) (hts _ (List.mem_of_getElem? (i := 9) rfl)) rfl rf_yd_X3_init ⟨Nat.le_of_ble_eq_true rfl, Nat.le_of_ble_eq_true rfl⟩) hK hP hD hA hS [1] [0] rfl rfl (by decide) (by decide) (by decide) rfl hl.1 rfl (Nat.le_of_ble_eq_true rfl) rfdX4_init_12 ⟨Nat.le_of_ble_eq_true rfl, Nat.le_of_ble_eq_true rfl⟩ (fun z12 H locs hP hD hS => ?_)
  have hP : va_P D rf_cl [(h0, .inr (4, [.null])), (q5, .inr (3, [.ref z12])), (z12, .inl (cA, 286, .inl rf_Z))] H := hP
  have hD : va_D A [(h0, .inr (4, [.null])), (q5, .inr (3, [.ref z12])), (z12, .inl (cA, 286, .inl rf_Z))] := hD
  refine W.widen (k := 2) (n := 287) (Nat.le_of_ble_eq_true rfl) (Nat.le_of_ble_eq_true rfl) ?_
  refine va_putF (D := D) (ci := 4) (v := .ref q5) (ty := .object "DollGarlands$Row") (C := rfRX4) (T := rfTX4) (N := 1) hx hb hts rf_in_X4_init_X4 rftyX4 rftyX4_ok rfnmX4 hown hK hP hD hS 0 rfl rfl 0 (by decide) (hts _ (List.mem_of_getElem? (i := 7) rfl)) (fun _ h9 => h9) rfl hin rfl (by decide +kernel) rfl rfl (Nat.le_of_ble_eq_true rfl) rfdX4_init_15 (fun H locs hP hD hS => ?_)
  have hP : va_P D rf_cl [(h0, .inr (4, [.ref q5])), (q5, .inr (3, [.ref z12])), (z12, .inl (cA, 286, .inl rf_Z))] H := hP
  have hD : va_D A [(h0, .inr (4, [.ref q5])), (q5, .inr (3, [.ref z12])), (z12, .inl (cA, 286, .inl rf_Z))] := hD
  refine lv_aload_n hx hb rfdX4_init_18 rfl (lv_at hl 0 rfl) ?_
  refine va_get (D := D) (ci := 4) (v := .ref q5) (C := rfRX4) (T := rfTX4) (N := 1) hx hb hts rf_in_X4_init_X4 hown hK hP 0 rfl rfl 0 (by decide) (hts _ (List.mem_of_getElem? (i := 7) rfl)) (fun _ h9 => h9) rfl rfdX4_init_19 ?_
  refine lv_iconst (v := 1) hx hb rfdX4_init_22 (by decide) ?_
  refine lv_iconst (v := 3) hx hb rfdX4_init_23 (by decide) ?_
  refine rf_callV (wr := [(h0, .inr (4, [.ref q5]))]) (As := [.int 1, .int 3]) (rest := []) (q := (rfRX3, rfTX3, 1)) (fs := [.ref z12]) ⟨hx, hb, hml, hown, hts⟩ (rf_c_X3_put l D cA q5 z12 286 rf_Z 1 3 (by decide)) (cwV 2 hts rf_g_X4_init_X3_put rfl rfl rfl rf_yd_X3_put ⟨Nat.le_of_ble_eq_true rfl, Nat.le_of_ble_eq_true rfl⟩) hK hP hD hA hS [1, 2] [0] rfl rfl (by decide) (by decide) (by decide) 1 3 rfl rfl rfl hl.1 rfl (Nat.le_of_ble_eq_true rfl) rfdX4_init_24 ⟨Nat.le_of_ble_eq_true rfl, Nat.le_of_ble_eq_true rfl⟩ (fun g24 H locs hP hD hS => ?_)
  have hP : va_P D rf_cl [(h0, .inr (4, [.ref q5])), (q5, .inr (3, [.ref z12])), (z12, .inl (cA, 286, .inl g24))] H := hP
  have hD : va_D A [(h0, .inr (4, [.ref q5])), (q5, .inr (3, [.ref z12])), (z12, .inl (cA, 286, .inl g24))] := hD
  refine W.widen (k := 2) (n := 287) (Nat.le_of_ble_eq_true rfl) (Nat.le_of_ble_eq_true rfl) ?_
  refine lv_iconst (v := 0) hx hb rfdX4_init_27 (by decide) ?_
  refine lv_istore_n (lv' := [(1, .int 0), (0, .ref h0)]) hx hb rfdX4_init_28 rfl hl (by decide) rfl (fun ls hl => ?_)
  have LP : ∀ (n_ k_ : Nat), k_ + n_ = 10 → ∀ (f_ : Nat → Int32) (H : Heap) (locs : List Loc) (ls : Array Slot), va_P D rf_cl [(h0, .inr (4, [.ref q5])), (q5, .inr (3, [.ref z12])), (z12, .inl (cA, 286, .inl f_))] H → va_D A [(h0, .inr (4, [.ref q5])), (q5, .inr (3, [.ref z12])), (z12, .inl (cA, 286, .inl f_))] → va_S A s.heap H locs → lv_has ls 2 [(1, .int (nI k_)), (0, .ref h0)] → W p l e { frames := 2, cells := 2, slots := 287, locals := 41 } s m args below meth c H locs 2 287 Q (F0 m 29 ls []) := by
    intro n_
    induction n_ with
    | zero =>
      intro k_ hk_ f_ H locs ls hP hD hS hl
      refine lv_iload_n hx hb rfdX4_init_29 rfl (lv_at hl 0 rfl) ?_
      refine lv_bipush (v := (nI 10)) hx hb rfdX4_init_30 (by decide) ?_
      refine lv_icmp_ge (tgt := 72) hx hb rfdX4_init_32 (by decide) (fun h3 => ?_) (fun h3 => absurd (nI_le (by omega) (by omega)) h3)
      exact RET _ _ _ _ () rfdX4_init_72 (hP.sub [] rfl) (hD.sub [] (by decide) rfl) hS
    | succ n_ ih_ =>
      intro k_ hk_ f_ H locs ls hP hD hS hl
      refine lv_iload_n hx hb rfdX4_init_29 rfl (lv_at hl 0 rfl) ?_
      refine lv_bipush (v := (nI 10)) hx hb rfdX4_init_30 (by decide) ?_
      refine lv_icmp_ge (tgt := 72) hx hb rfdX4_init_32 (by decide) (fun h3 => absurd h3 (nI_ge (by omega) (by omega))) (fun h3 => ?_)
      refine lv_aload_n hx hb rfdX4_init_35 rfl (lv_at hl 1 rfl) ?_
      refine va_get (D := D) (ci := 4) (v := .ref q5) (C := rfRX4) (T := rfTX4) (N := 1) hx hb hts rf_in_X4_init_X4 hown hK hP 0 rfl rfl 0 (by decide) (hts _ (List.mem_of_getElem? (i := 7) rfl)) (fun _ h9 => h9) rfl rfdX4_init_36 ?_
      refine lv_iconst (v := 2) hx hb rfdX4_init_39 (by decide) ?_
      refine lv_iload_n hx hb rfdX4_init_40 rfl (lv_at hl 0 rfl) ?_
      refine lv_iadd hx hb rfdX4_init_41 ?_
      refine lv_iload_n hx hb rfdX4_init_42 rfl (lv_at hl 0 rfl) ?_
      refine lv_bipush (v := 6) hx hb rfdX4_init_43 (by decide) ?_
      refine lv_irem hx hb rfdX4_init_45 (by decide) ?_
      refine lv_topi (fun x45_ ex45_ => ?_)
      refine rf_callV (wr := [(h0, .inr (4, [.ref q5]))]) (As := [.int (2 + (nI k_)), .int x45_]) (rest := []) (q := (rfRX3, rfTX3, 1)) (fs := [.ref z12]) ⟨hx, hb, hml, hown, hts⟩ (rf_c_X3_put l D cA q5 z12 286 f_ (2 + (nI k_)) x45_ (by decide)) (cwV 2 hts rf_g_X4_init_X3_put rfl rfl rfl rf_yd_X3_put ⟨Nat.le_of_ble_eq_true rfl, Nat.le_of_ble_eq_true rfl⟩) hK hP hD hA hS [1, 2] [0] rfl rfl (by decide) (by decide) (by decide) 1 3 rfl rfl rfl hl.1 rfl (Nat.le_of_ble_eq_true rfl) rfdX4_init_46 ⟨Nat.le_of_ble_eq_true rfl, Nat.le_of_ble_eq_true rfl⟩ (fun g46 H locs hP hD hS => ?_)
      have hP : va_P D rf_cl [(h0, .inr (4, [.ref q5])), (q5, .inr (3, [.ref z12])), (z12, .inl (cA, 286, .inl g46))] H := hP
      have hD : va_D A [(h0, .inr (4, [.ref q5])), (q5, .inr (3, [.ref z12])), (z12, .inl (cA, 286, .inl g46))] := hD
      refine W.widen (k := 2) (n := 287) (Nat.le_of_ble_eq_true rfl) (Nat.le_of_ble_eq_true rfl) ?_
      refine lv_aload_n hx hb rfdX4_init_49 rfl (lv_at hl 1 rfl) ?_
      refine va_get (D := D) (ci := 4) (v := .ref q5) (C := rfRX4) (T := rfTX4) (N := 1) hx hb hts rf_in_X4_init_X4 hown hK hP 0 rfl rfl 0 (by decide) (hts _ (List.mem_of_getElem? (i := 7) rfl)) (fun _ h9 => h9) rfl rfdX4_init_50 ?_
      refine lv_bipush (v := 12) hx hb rfdX4_init_53 (by decide) ?_
      refine lv_iload_n hx hb rfdX4_init_55 rfl (lv_at hl 0 rfl) ?_
      refine lv_iadd hx hb rfdX4_init_56 ?_
      refine lv_iload_n hx hb rfdX4_init_57 rfl (lv_at hl 0 rfl) ?_
      refine lv_iconst (v := 1) hx hb rfdX4_init_58 (by decide) ?_
      refine lv_iadd hx hb rfdX4_init_59 ?_
      refine lv_bipush (v := 6) hx hb rfdX4_init_60 (by decide) ?_
      refine lv_irem hx hb rfdX4_init_62 (by decide) ?_
      refine lv_topi (fun x62_ ex62_ => ?_)
      refine rf_callV (wr := [(h0, .inr (4, [.ref q5]))]) (As := [.int (12 + (nI k_)), .int x62_]) (rest := []) (q := (rfRX3, rfTX3, 1)) (fs := [.ref z12]) ⟨hx, hb, hml, hown, hts⟩ (rf_c_X3_put l D cA q5 z12 286 g46 (12 + (nI k_)) x62_ (by decide)) (cwV 2 hts rf_g_X4_init_X3_put rfl rfl rfl rf_yd_X3_put ⟨Nat.le_of_ble_eq_true rfl, Nat.le_of_ble_eq_true rfl⟩) hK hP hD hA hS [1, 2] [0] rfl rfl (by decide) (by decide) (by decide) 1 3 rfl rfl rfl hl.1 rfl (Nat.le_of_ble_eq_true rfl) rfdX4_init_63 ⟨Nat.le_of_ble_eq_true rfl, Nat.le_of_ble_eq_true rfl⟩ (fun g63 H locs hP hD hS => ?_)
      have hP : va_P D rf_cl [(h0, .inr (4, [.ref q5])), (q5, .inr (3, [.ref z12])), (z12, .inl (cA, 286, .inl g63))] H := hP
      have hD : va_D A [(h0, .inr (4, [.ref q5])), (q5, .inr (3, [.ref z12])), (z12, .inl (cA, 286, .inl g63))] := hD
      refine W.widen (k := 2) (n := 287) (Nat.le_of_ble_eq_true rfl) (Nat.le_of_ble_eq_true rfl) ?_
      refine lv_iinc (v := nI (k_ + 1)) (lv' := [(1, .int (nI (k_ + 1))), (0, .ref h0)]) hx hb rfdX4_init_66 hl (k := 0) rfl (nI_succ k_).symm (by decide) rfl (fun ls hl => ?_)
      refine lv_goto (tgt := 29) hx hb rfdX4_init_69 (by decide) ?_
      exact ih_ (k_ + 1) (by omega) g63 H locs ls hP hD hS hl
  exact LP 10 0 rfl g24 H locs ls hP hD hS (lv_sub hl [0, 1] rfl)
set_option maxHeartbeats 4000000 in
set_option maxRecDepth 100000 in
theorem rf_c_X2_init (l : Launch) (D : va_G) (cA : ClassId) (h0 t0 : Nat) : rf_M l D cA rfyX2_init rfwsX2_init { frames := 1, cells := 0, slots := 0, locals := 20 } [.ref h0, .ref t0] [(h0, .inr (2, [.null]))] 0 0 (S := Unit) (fun _ => []) := by
  refine rf_of (cc := rfcX2_init) (maxL := 2) (by decide) rfl (Nat.le_of_ble_eq_true rfl) ?_
  intro p e s m args below meth c Q A ls F hin hK hP hD hA hS hl RET
  obtain ⟨hx, hb, hml, hown, hts⟩ := id F
  have hl : lv_has ls 2 [(0, .ref h0), (1, .ref t0)] := hl
  refine lv_aload_n hx hb rfdX2_init_0 rfl (lv_at hl 0 rfl) ?_
  refine W.objInit hx hb hown (hts _ (List.mem_of_getElem? (i := 1) rfl)) (hts _ (List.mem_of_getElem? (i := 2) rfl)) (hts _ (List.mem_of_getElem? (i := 3) rfl)) rfl (by rw [hml]; exact hl.1) rfl rfdX2_init_1 (Nat.le_of_ble_eq_true rfl) (Nat.le_of_ble_eq_true rfl) ?_
  refine W.eq (g2 := F0 m 4 ls []) rfl ?_
  refine lv_aload_n hx hb rfdX2_init_4 rfl (lv_at hl 0 rfl) ?_
  refine lv_aload_n hx hb rfdX2_init_5 rfl (lv_at hl 1 rfl) ?_
  refine va_putF (D := D) (ci := 2) (v := .ref t0) (ty := .object "DollGarlands$Table") (C := rfRX2) (T := rfTX2) (N := 1) hx hb hts rf_in_X2_init_X2 rftyX2 rftyX2_ok rfnmX2 hown hK hP hD hS 0 rfl rfl 0 (by decide) (hts _ (List.mem_of_getElem? (i := 4) rfl)) (fun _ h9 => h9) rfl hin rfl (by decide +kernel) rfl rfl (Nat.le_of_ble_eq_true rfl) rfdX2_init_6 (fun H locs hP hD hS => ?_)
  have hP : va_P D rf_cl [(h0, .inr (2, [.ref t0]))] H := hP
  have hD : va_D A [(h0, .inr (2, [.ref t0]))] := hD
  exact RET _ _ _ _ () rfdX2_init_9 (hP.sub [] rfl) (hD.sub [] (by decide) rfl) hS
set_option maxHeartbeats 4000000 in
set_option maxRecDepth 100000 in
theorem rf_c_X0_init (l : Launch) (D : va_G) (cA : ClassId) (h0 t0 : Nat) : rf_M l D cA rfyX0_init rfwsX0_init { frames := 2, cells := 6, slots := 63, locals := 41 } [.ref h0, .ref t0] [(h0, .inr (0, [.null, .null, .null, .null]))] 6 63 (S := Unit) (fun _ => []) := by
  refine rf_of (cc := rfcX0_init) (maxL := 2) (by decide) rfl (Nat.le_of_ble_eq_true rfl) ?_
  intro p e s m args below meth c Q A ls F hin hK hP hD hA hS hl RET
  obtain ⟨hx, hb, hml, hown, hts⟩ := id F
  have hl : lv_has ls 2 [(0, .ref h0), (1, .ref t0)] := hl
  refine lv_aload_n hx hb rfdX0_init_0 rfl (lv_at hl 0 rfl) ?_
  refine W.objInit hx hb hown (hts _ (List.mem_of_getElem? (i := 1) rfl)) (hts _ (List.mem_of_getElem? (i := 2) rfl)) (hts _ (List.mem_of_getElem? (i := 3) rfl)) rfl (by rw [hml]; exact hl.1) rfl rfdX0_init_1 (Nat.le_of_ble_eq_true rfl) (Nat.le_of_ble_eq_true rfl) ?_
  refine W.eq (g2 := F0 m 4 ls []) rfl ?_
  refine lv_aload_n hx hb rfdX0_init_4 rfl (lv_at hl 0 rfl) ?_
  refine lv_aload_n hx hb rfdX0_init_5 rfl (lv_at hl 1 rfl) ?_
  refine va_putF (D := D) (ci := 0) (v := .ref t0) (ty := .object "DollGarlands$Table") (C := rfRX0) (T := rfTX0) (N := 4) hx hb hts rf_in_X0_init_X0 rftyX0 rftyX0_ok rfnmX0 hown hK hP hD hS 0 rfl rfl 0 (by decide) (hts _ (List.mem_of_getElem? (i := 4) rfl)) (fun _ h9 => h9) rfl hin rfl (by decide +kernel) rfl rfl (Nat.le_of_ble_eq_true rfl) rfdX0_init_6 (fun H locs hP hD hS => ?_)
  have hP : va_P D rf_cl [(h0, .inr (0, [.ref t0, .null, .null, .null]))] H := hP
  have hD : va_D A [(h0, .inr (0, [.ref t0, .null, .null, .null]))] := hD
  refine lv_aload_n hx hb rfdX0_init_9 rfl (lv_at hl 0 rfl) ?_
  refine va_new (ci := 3) (fs := [.null]) (C := rfRX3) (T := rfTX3) (N := 1) hx hb hts rf_in_X0_init_X3 rftyX3 rftyX3_ok hown (hts _ (List.mem_of_getElem? (i := 5) rfl)) (hts _ (List.mem_of_getElem? (i := 6) rfl)) (hts _ (List.mem_of_getElem? (i := 7) rfl)) hK hP hD hS hA rfl (fun j hj => by rcases (show j = 0 by omega) with rfl <;> rfl) (Nat.le_of_ble_eq_true rfl) (Nat.le_of_ble_eq_true rfl) rfdX0_init_10 (fun q10 H hP hD hS => ?_)
  have hP : va_P D rf_cl [(h0, .inr (0, [.ref t0, .null, .null, .null])), (q10, .inr (3, [.null]))] H := hP
  have hD : va_D A [(h0, .inr (0, [.ref t0, .null, .null, .null])), (q10, .inr (3, [.null]))] := hD
  refine W.widen (k := 1) (n := 1) (Nat.le_of_ble_eq_true rfl) (Nat.le_of_ble_eq_true rfl) ?_
  refine lv_dup hx hb rfdX0_init_13 rfl ?_
  refine lv_bipush (v := (nI 20)) hx hb rfdX0_init_14 (by decide) ?_
  refine rf_call (wr := [(h0, .inr (0, [.ref t0, .null, .null, .null]))]) (As := [.int (nI 20)]) (rest := [.ref q10, .ref h0]) ⟨hx, hb, hml, hown, hts⟩ (rf_c_X3_init l D cA q10 20 (by decide) (by decide)) (cwI 1 hts rf_g_X0_init_X3_init rfl rfl rfl (hts _ (List.mem_of_getElem? (i := 7) rfl)) (hts _ (List.mem_of_getElem? (i := 11) rfl)) (hts _ (List.mem_of_getElem? (i := 12) rfl)) rfl rf_yd_X3_init ⟨Nat.le_of_ble_eq_true rfl, Nat.le_of_ble_eq_true rfl⟩) hK hP hD hA hS [1] [0] rfl rfl (by decide) (by decide) (by decide) rfl hl.1 rfl (Nat.le_of_ble_eq_true rfl) rfdX0_init_16 ⟨Nat.le_of_ble_eq_true rfl, Nat.le_of_ble_eq_true rfl⟩ (fun z16 H locs hP hD hS => ?_)
  have hP : va_P D rf_cl [(h0, .inr (0, [.ref t0, .null, .null, .null])), (q10, .inr (3, [.ref z16])), (z16, .inl (cA, 20, .inl rf_Z))] H := hP
  have hD : va_D A [(h0, .inr (0, [.ref t0, .null, .null, .null])), (q10, .inr (3, [.ref z16])), (z16, .inl (cA, 20, .inl rf_Z))] := hD
  refine W.widen (k := 2) (n := 21) (Nat.le_of_ble_eq_true rfl) (Nat.le_of_ble_eq_true rfl) ?_
  refine va_putF (D := D) (ci := 0) (v := .ref q10) (ty := .object "DollGarlands$Row") (C := rfRX0) (T := rfTX0) (N := 4) hx hb hts rf_in_X0_init_X0 rftyX0 rftyX0_ok rfnmX0 hown hK hP hD hS 0 rfl rfl 1 (by decide) (hts _ (List.mem_of_getElem? (i := 8) rfl)) (fun _ h9 => h9) rfl hin rfl (by decide +kernel) rfl rfl (Nat.le_of_ble_eq_true rfl) rfdX0_init_19 (fun H locs hP hD hS => ?_)
  have hP : va_P D rf_cl [(h0, .inr (0, [.ref t0, .ref q10, .null, .null])), (q10, .inr (3, [.ref z16])), (z16, .inl (cA, 20, .inl rf_Z))] H := hP
  have hD : va_D A [(h0, .inr (0, [.ref t0, .ref q10, .null, .null])), (q10, .inr (3, [.ref z16])), (z16, .inl (cA, 20, .inl rf_Z))] := hD
  refine lv_aload_n hx hb rfdX0_init_22 rfl (lv_at hl 0 rfl) ?_
  refine va_new (ci := 3) (fs := [.null]) (C := rfRX3) (T := rfTX3) (N := 1) hx hb hts rf_in_X0_init_X3 rftyX3 rftyX3_ok hown (hts _ (List.mem_of_getElem? (i := 5) rfl)) (hts _ (List.mem_of_getElem? (i := 6) rfl)) (hts _ (List.mem_of_getElem? (i := 7) rfl)) hK hP hD hS hA rfl (fun j hj => by rcases (show j = 0 by omega) with rfl <;> rfl) (Nat.le_of_ble_eq_true rfl) (Nat.le_of_ble_eq_true rfl) rfdX0_init_23 (fun q23 H hP hD hS => ?_)
  have hP : va_P D rf_cl [(h0, .inr (0, [.ref t0, .ref q10, .null, .null])), (q10, .inr (3, [.ref z16])), (z16, .inl (cA, 20, .inl rf_Z)), (q23, .inr (3, [.null]))] H := hP
  have hD : va_D A [(h0, .inr (0, [.ref t0, .ref q10, .null, .null])), (q10, .inr (3, [.ref z16])), (z16, .inl (cA, 20, .inl rf_Z)), (q23, .inr (3, [.null]))] := hD
  refine W.widen (k := 3) (n := 22) (Nat.le_of_ble_eq_true rfl) (Nat.le_of_ble_eq_true rfl) ?_
  refine lv_dup hx hb rfdX0_init_26 rfl ?_
  refine lv_bipush (v := (nI 20)) hx hb rfdX0_init_27 (by decide) ?_
  refine rf_call (wr := [(h0, .inr (0, [.ref t0, .ref q10, .null, .null])), (q10, .inr (3, [.ref z16])), (z16, .inl (cA, 20, .inl rf_Z))]) (As := [.int (nI 20)]) (rest := [.ref q23, .ref h0]) ⟨hx, hb, hml, hown, hts⟩ (rf_c_X3_init l D cA q23 20 (by decide) (by decide)) (cwI 1 hts rf_g_X0_init_X3_init rfl rfl rfl (hts _ (List.mem_of_getElem? (i := 7) rfl)) (hts _ (List.mem_of_getElem? (i := 11) rfl)) (hts _ (List.mem_of_getElem? (i := 12) rfl)) rfl rf_yd_X3_init ⟨Nat.le_of_ble_eq_true rfl, Nat.le_of_ble_eq_true rfl⟩) hK hP hD hA hS [3] [0, 1, 2] rfl rfl (by decide) (by decide) (by decide) rfl hl.1 rfl (Nat.le_of_ble_eq_true rfl) rfdX0_init_29 ⟨Nat.le_of_ble_eq_true rfl, Nat.le_of_ble_eq_true rfl⟩ (fun z29 H locs hP hD hS => ?_)
  have hP : va_P D rf_cl [(h0, .inr (0, [.ref t0, .ref q10, .null, .null])), (q10, .inr (3, [.ref z16])), (z16, .inl (cA, 20, .inl rf_Z)), (q23, .inr (3, [.ref z29])), (z29, .inl (cA, 20, .inl rf_Z))] H := hP
  have hD : va_D A [(h0, .inr (0, [.ref t0, .ref q10, .null, .null])), (q10, .inr (3, [.ref z16])), (z16, .inl (cA, 20, .inl rf_Z)), (q23, .inr (3, [.ref z29])), (z29, .inl (cA, 20, .inl rf_Z))] := hD
  refine W.widen (k := 4) (n := 42) (Nat.le_of_ble_eq_true rfl) (Nat.le_of_ble_eq_true rfl) ?_
  refine va_putF (D := D) (ci := 0) (v := .ref q23) (ty := .object "DollGarlands$Row") (C := rfRX0) (T := rfTX0) (N := 4) hx hb hts rf_in_X0_init_X0 rftyX0 rftyX0_ok rfnmX0 hown hK hP hD hS 0 rfl rfl 2 (by decide) (hts _ (List.mem_of_getElem? (i := 9) rfl)) (fun _ h9 => h9) rfl hin rfl (by decide +kernel) rfl rfl (Nat.le_of_ble_eq_true rfl) rfdX0_init_32 (fun H locs hP hD hS => ?_)
  have hP : va_P D rf_cl [(h0, .inr (0, [.ref t0, .ref q10, .ref q23, .null])), (q10, .inr (3, [.ref z16])), (z16, .inl (cA, 20, .inl rf_Z)), (q23, .inr (3, [.ref z29])), (z29, .inl (cA, 20, .inl rf_Z))] H := hP
  have hD : va_D A [(h0, .inr (0, [.ref t0, .ref q10, .ref q23, .null])), (q10, .inr (3, [.ref z16])), (z16, .inl (cA, 20, .inl rf_Z)), (q23, .inr (3, [.ref z29])), (z29, .inl (cA, 20, .inl rf_Z))] := hD
  refine lv_aload_n hx hb rfdX0_init_35 rfl (lv_at hl 0 rfl) ?_
  refine va_new (ci := 3) (fs := [.null]) (C := rfRX3) (T := rfTX3) (N := 1) hx hb hts rf_in_X0_init_X3 rftyX3 rftyX3_ok hown (hts _ (List.mem_of_getElem? (i := 5) rfl)) (hts _ (List.mem_of_getElem? (i := 6) rfl)) (hts _ (List.mem_of_getElem? (i := 7) rfl)) hK hP hD hS hA rfl (fun j hj => by rcases (show j = 0 by omega) with rfl <;> rfl) (Nat.le_of_ble_eq_true rfl) (Nat.le_of_ble_eq_true rfl) rfdX0_init_36 (fun q36 H hP hD hS => ?_)
  have hP : va_P D rf_cl [(h0, .inr (0, [.ref t0, .ref q10, .ref q23, .null])), (q10, .inr (3, [.ref z16])), (z16, .inl (cA, 20, .inl rf_Z)), (q23, .inr (3, [.ref z29])), (z29, .inl (cA, 20, .inl rf_Z)), (q36, .inr (3, [.null]))] H := hP
  have hD : va_D A [(h0, .inr (0, [.ref t0, .ref q10, .ref q23, .null])), (q10, .inr (3, [.ref z16])), (z16, .inl (cA, 20, .inl rf_Z)), (q23, .inr (3, [.ref z29])), (z29, .inl (cA, 20, .inl rf_Z)), (q36, .inr (3, [.null]))] := hD
  refine W.widen (k := 5) (n := 43) (Nat.le_of_ble_eq_true rfl) (Nat.le_of_ble_eq_true rfl) ?_
  refine lv_dup hx hb rfdX0_init_39 rfl ?_
  refine lv_bipush (v := (nI 20)) hx hb rfdX0_init_40 (by decide) ?_
  refine rf_call (wr := [(h0, .inr (0, [.ref t0, .ref q10, .ref q23, .null])), (q10, .inr (3, [.ref z16])), (z16, .inl (cA, 20, .inl rf_Z)), (q23, .inr (3, [.ref z29])), (z29, .inl (cA, 20, .inl rf_Z))]) (As := [.int (nI 20)]) (rest := [.ref q36, .ref h0]) ⟨hx, hb, hml, hown, hts⟩ (rf_c_X3_init l D cA q36 20 (by decide) (by decide)) (cwI 1 hts rf_g_X0_init_X3_init rfl rfl rfl (hts _ (List.mem_of_getElem? (i := 7) rfl)) (hts _ (List.mem_of_getElem? (i := 11) rfl)) (hts _ (List.mem_of_getElem? (i := 12) rfl)) rfl rf_yd_X3_init ⟨Nat.le_of_ble_eq_true rfl, Nat.le_of_ble_eq_true rfl⟩) hK hP hD hA hS [5] [0, 1, 2, 3, 4] rfl rfl (by decide) (by decide) (by decide) rfl hl.1 rfl (Nat.le_of_ble_eq_true rfl) rfdX0_init_42 ⟨Nat.le_of_ble_eq_true rfl, Nat.le_of_ble_eq_true rfl⟩ (fun z42 H locs hP hD hS => ?_)
  have hP : va_P D rf_cl [(h0, .inr (0, [.ref t0, .ref q10, .ref q23, .null])), (q10, .inr (3, [.ref z16])), (z16, .inl (cA, 20, .inl rf_Z)), (q23, .inr (3, [.ref z29])), (z29, .inl (cA, 20, .inl rf_Z)), (q36, .inr (3, [.ref z42])), (z42, .inl (cA, 20, .inl rf_Z))] H := hP
  have hD : va_D A [(h0, .inr (0, [.ref t0, .ref q10, .ref q23, .null])), (q10, .inr (3, [.ref z16])), (z16, .inl (cA, 20, .inl rf_Z)), (q23, .inr (3, [.ref z29])), (z29, .inl (cA, 20, .inl rf_Z)), (q36, .inr (3, [.ref z42])), (z42, .inl (cA, 20, .inl rf_Z))] := hD
  refine W.widen (k := 6) (n := 63) (Nat.le_of_ble_eq_true rfl) (Nat.le_of_ble_eq_true rfl) ?_
  refine va_putF (D := D) (ci := 0) (v := .ref q36) (ty := .object "DollGarlands$Row") (C := rfRX0) (T := rfTX0) (N := 4) hx hb hts rf_in_X0_init_X0 rftyX0 rftyX0_ok rfnmX0 hown hK hP hD hS 0 rfl rfl 3 (by decide) (hts _ (List.mem_of_getElem? (i := 10) rfl)) (fun _ h9 => h9) rfl hin rfl (by decide +kernel) rfl rfl (Nat.le_of_ble_eq_true rfl) rfdX0_init_45 (fun H locs hP hD hS => ?_)
  have hP : va_P D rf_cl [(h0, .inr (0, [.ref t0, .ref q10, .ref q23, .ref q36])), (q10, .inr (3, [.ref z16])), (z16, .inl (cA, 20, .inl rf_Z)), (q23, .inr (3, [.ref z29])), (z29, .inl (cA, 20, .inl rf_Z)), (q36, .inr (3, [.ref z42])), (z42, .inl (cA, 20, .inl rf_Z))] H := hP
  have hD : va_D A [(h0, .inr (0, [.ref t0, .ref q10, .ref q23, .ref q36])), (q10, .inr (3, [.ref z16])), (z16, .inl (cA, 20, .inl rf_Z)), (q23, .inr (3, [.ref z29])), (z29, .inl (cA, 20, .inl rf_Z)), (q36, .inr (3, [.ref z42])), (z42, .inl (cA, 20, .inl rf_Z))] := hD
  exact RET _ _ _ _ () rfdX0_init_48 (hP.sub [] rfl) (hD.sub [] (by decide) rfl) hS
set_option maxHeartbeats 4000000 in
set_option maxRecDepth 100000 in
theorem rf_c_X1_init (l : Launch) (D : va_G) (cA : ClassId) (h0 : Nat) : rf_M l D cA rfyX1_init rfwsX1_init { frames := 2, cells := 2, slots := 1145, locals := 41 } [.ref h0] [(h0, .inr (1, [.null, .int 0, .int 0]))] 2 1145 (S := Nat) (fun z => [(z, .inl (cA, 1144, .inl rf_Z))]) := by
  refine rf_of (cc := rfcX1_init) (maxL := 1) (by decide) rfl (Nat.le_of_ble_eq_true rfl) ?_
  intro p e s m args below meth c Q A ls F hin hK hP hD hA hS hl RET
  obtain ⟨hx, hb, hml, hown, hts⟩ := id F
  have hl : lv_has ls 1 [(0, .ref h0)] := hl
  refine lv_aload_n hx hb rfdX1_init_0 rfl (lv_at hl 0 rfl) ?_
  refine W.objInit hx hb hown (hts _ (List.mem_of_getElem? (i := 1) rfl)) (hts _ (List.mem_of_getElem? (i := 2) rfl)) (hts _ (List.mem_of_getElem? (i := 3) rfl)) rfl (by rw [hml]; exact hl.1) rfl rfdX1_init_1 (Nat.le_of_ble_eq_true rfl) (Nat.le_of_ble_eq_true rfl) ?_
  refine W.eq (g2 := F0 m 4 ls []) rfl ?_
  refine lv_aload_n hx hb rfdX1_init_4 rfl (lv_at hl 0 rfl) ?_
  refine va_new (ci := 3) (fs := [.null]) (C := rfRX3) (T := rfTX3) (N := 1) hx hb hts rf_in_X1_init_X3 rftyX3 rftyX3_ok hown (hts _ (List.mem_of_getElem? (i := 4) rfl)) (hts _ (List.mem_of_getElem? (i := 5) rfl)) (hts _ (List.mem_of_getElem? (i := 6) rfl)) hK hP hD hS hA rfl (fun j hj => by rcases (show j = 0 by omega) with rfl <;> rfl) (Nat.le_of_ble_eq_true rfl) (Nat.le_of_ble_eq_true rfl) rfdX1_init_5 (fun q5 H hP hD hS => ?_)
  have hP : va_P D rf_cl [(h0, .inr (1, [.null, .int 0, .int 0])), (q5, .inr (3, [.null]))] H := hP
  have hD : va_D A [(h0, .inr (1, [.null, .int 0, .int 0])), (q5, .inr (3, [.null]))] := hD
  refine W.widen (k := 1) (n := 1) (Nat.le_of_ble_eq_true rfl) (Nat.le_of_ble_eq_true rfl) ?_
  refine lv_dup hx hb rfdX1_init_8 rfl ?_
  refine lv_sipush (v := (nI 1144)) hx hb rfdX1_init_9 (by decide) ?_
  refine rf_call (wr := [(h0, .inr (1, [.null, .int 0, .int 0]))]) (As := [.int (nI 1144)]) (rest := [.ref q5, .ref h0]) ⟨hx, hb, hml, hown, hts⟩ (rf_c_X3_init l D cA q5 1144 (by decide) (by decide)) (cwI 1 hts rf_g_X1_init_X3_init rfl rfl rfl (hts _ (List.mem_of_getElem? (i := 6) rfl)) (hts _ (List.mem_of_getElem? (i := 10) rfl)) (hts _ (List.mem_of_getElem? (i := 11) rfl)) rfl rf_yd_X3_init ⟨Nat.le_of_ble_eq_true rfl, Nat.le_of_ble_eq_true rfl⟩) hK hP hD hA hS [1] [0] rfl rfl (by decide) (by decide) (by decide) rfl hl.1 rfl (Nat.le_of_ble_eq_true rfl) rfdX1_init_12 ⟨Nat.le_of_ble_eq_true rfl, Nat.le_of_ble_eq_true rfl⟩ (fun z12 H locs hP hD hS => ?_)
  have hP : va_P D rf_cl [(h0, .inr (1, [.null, .int 0, .int 0])), (q5, .inr (3, [.ref z12])), (z12, .inl (cA, 1144, .inl rf_Z))] H := hP
  have hD : va_D A [(h0, .inr (1, [.null, .int 0, .int 0])), (q5, .inr (3, [.ref z12])), (z12, .inl (cA, 1144, .inl rf_Z))] := hD
  refine W.widen (k := 2) (n := 1145) (Nat.le_of_ble_eq_true rfl) (Nat.le_of_ble_eq_true rfl) ?_
  refine va_putF (D := D) (ci := 1) (v := .ref q5) (ty := .object "DollGarlands$Row") (C := rfRX1) (T := rfTX1) (N := 3) hx hb hts rf_in_X1_init_X1 rftyX1 rftyX1_ok rfnmX1 hown hK hP hD hS 0 rfl rfl 0 (by decide) (hts _ (List.mem_of_getElem? (i := 7) rfl)) (fun _ h9 => h9) rfl hin rfl (by decide +kernel) rfl rfl (Nat.le_of_ble_eq_true rfl) rfdX1_init_15 (fun H locs hP hD hS => ?_)
  have hP : va_P D rf_cl [(h0, .inr (1, [.ref q5, .int 0, .int 0])), (q5, .inr (3, [.ref z12])), (z12, .inl (cA, 1144, .inl rf_Z))] H := hP
  have hD : va_D A [(h0, .inr (1, [.ref q5, .int 0, .int 0])), (q5, .inr (3, [.ref z12])), (z12, .inl (cA, 1144, .inl rf_Z))] := hD
  refine lv_aload_n hx hb rfdX1_init_18 rfl (lv_at hl 0 rfl) ?_
  refine lv_iconst (v := 0) hx hb rfdX1_init_19 (by decide) ?_
  refine va_put (D := D) (ci := 1) (v := .int 0) (ty := .int) (C := rfRX1) (T := rfTX1) (N := 3) hx hb hts rf_in_X1_init_X1 rftyX1 rftyX1_ok rfnmX1 hown hK hP hD hS 0 rfl rfl 1 (by decide) (hts _ (List.mem_of_getElem? (i := 8) rfl)) (fun _ h9 => h9) rfl (by decide +kernel) rfl rfl (Nat.le_of_ble_eq_true rfl) rfdX1_init_20 (fun H locs hP hD hS => ?_)
  have hP : va_P D rf_cl [(h0, .inr (1, [.ref q5, .int 0, .int 0])), (q5, .inr (3, [.ref z12])), (z12, .inl (cA, 1144, .inl rf_Z))] H := hP
  have hD : va_D A [(h0, .inr (1, [.ref q5, .int 0, .int 0])), (q5, .inr (3, [.ref z12])), (z12, .inl (cA, 1144, .inl rf_Z))] := hD
  refine lv_aload_n hx hb rfdX1_init_23 rfl (lv_at hl 0 rfl) ?_
  refine lv_iconst (v := 0) hx hb rfdX1_init_24 (by decide) ?_
  refine va_put (D := D) (ci := 1) (v := .int 0) (ty := .int) (C := rfRX1) (T := rfTX1) (N := 3) hx hb hts rf_in_X1_init_X1 rftyX1 rftyX1_ok rfnmX1 hown hK hP hD hS 0 rfl rfl 2 (by decide) (hts _ (List.mem_of_getElem? (i := 9) rfl)) (fun _ h9 => h9) rfl (by decide +kernel) rfl rfl (Nat.le_of_ble_eq_true rfl) rfdX1_init_25 (fun H locs hP hD hS => ?_)
  have hP : va_P D rf_cl [(h0, .inr (1, [.ref q5, .int 0, .int 0])), (q5, .inr (3, [.ref z12])), (z12, .inl (cA, 1144, .inl rf_Z))] H := hP
  have hD : va_D A [(h0, .inr (1, [.ref q5, .int 0, .int 0])), (q5, .inr (3, [.ref z12])), (z12, .inl (cA, 1144, .inl rf_Z))] := hD
  exact RET _ _ _ _ z12 rfdX1_init_28 (hP.sub [2] rfl) (hD.sub [2] (by decide) rfl) hS
set_option maxHeartbeats 4000000 in
set_option maxRecDepth 100000 in
theorem rf_c_X5_init (l : Launch) (D : va_G) (cA : ClassId) (h0 : Nat) : rf_M l D cA rfyX5_init rfwsX5_init { frames := 2, cells := 2, slots := 81, locals := 41 } [.ref h0] [(h0, .inr (5, [.null, .int 0]))] 2 81 (S := Unit) (fun _ => []) := by
  refine rf_of (cc := rfcX5_init) (maxL := 1) (by decide) rfl (Nat.le_of_ble_eq_true rfl) ?_
  intro p e s m args below meth c Q A ls F hin hK hP hD hA hS hl RET
  obtain ⟨hx, hb, hml, hown, hts⟩ := id F
  have hl : lv_has ls 1 [(0, .ref h0)] := hl
  refine lv_aload_n hx hb rfdX5_init_0 rfl (lv_at hl 0 rfl) ?_
  refine W.objInit hx hb hown (hts _ (List.mem_of_getElem? (i := 1) rfl)) (hts _ (List.mem_of_getElem? (i := 2) rfl)) (hts _ (List.mem_of_getElem? (i := 3) rfl)) rfl (by rw [hml]; exact hl.1) rfl rfdX5_init_1 (Nat.le_of_ble_eq_true rfl) (Nat.le_of_ble_eq_true rfl) ?_
  refine W.eq (g2 := F0 m 4 ls []) rfl ?_
  refine lv_aload_n hx hb rfdX5_init_4 rfl (lv_at hl 0 rfl) ?_
  refine va_new (ci := 3) (fs := [.null]) (C := rfRX3) (T := rfTX3) (N := 1) hx hb hts rf_in_X5_init_X3 rftyX3 rftyX3_ok hown (hts _ (List.mem_of_getElem? (i := 4) rfl)) (hts _ (List.mem_of_getElem? (i := 5) rfl)) (hts _ (List.mem_of_getElem? (i := 6) rfl)) hK hP hD hS hA rfl (fun j hj => by rcases (show j = 0 by omega) with rfl <;> rfl) (Nat.le_of_ble_eq_true rfl) (Nat.le_of_ble_eq_true rfl) rfdX5_init_5 (fun q5 H hP hD hS => ?_)
  have hP : va_P D rf_cl [(h0, .inr (5, [.null, .int 0])), (q5, .inr (3, [.null]))] H := hP
  have hD : va_D A [(h0, .inr (5, [.null, .int 0])), (q5, .inr (3, [.null]))] := hD
  refine W.widen (k := 1) (n := 1) (Nat.le_of_ble_eq_true rfl) (Nat.le_of_ble_eq_true rfl) ?_
  refine lv_dup hx hb rfdX5_init_8 rfl ?_
  refine lv_bipush (v := (nI 80)) hx hb rfdX5_init_9 (by decide) ?_
  refine rf_call (wr := [(h0, .inr (5, [.null, .int 0]))]) (As := [.int (nI 80)]) (rest := [.ref q5, .ref h0]) ⟨hx, hb, hml, hown, hts⟩ (rf_c_X3_init l D cA q5 80 (by decide) (by decide)) (cwI 1 hts rf_g_X5_init_X3_init rfl rfl rfl (hts _ (List.mem_of_getElem? (i := 6) rfl)) (hts _ (List.mem_of_getElem? (i := 9) rfl)) (hts _ (List.mem_of_getElem? (i := 10) rfl)) rfl rf_yd_X3_init ⟨Nat.le_of_ble_eq_true rfl, Nat.le_of_ble_eq_true rfl⟩) hK hP hD hA hS [1] [0] rfl rfl (by decide) (by decide) (by decide) rfl hl.1 rfl (Nat.le_of_ble_eq_true rfl) rfdX5_init_11 ⟨Nat.le_of_ble_eq_true rfl, Nat.le_of_ble_eq_true rfl⟩ (fun z11 H locs hP hD hS => ?_)
  have hP : va_P D rf_cl [(h0, .inr (5, [.null, .int 0])), (q5, .inr (3, [.ref z11])), (z11, .inl (cA, 80, .inl rf_Z))] H := hP
  have hD : va_D A [(h0, .inr (5, [.null, .int 0])), (q5, .inr (3, [.ref z11])), (z11, .inl (cA, 80, .inl rf_Z))] := hD
  refine W.widen (k := 2) (n := 81) (Nat.le_of_ble_eq_true rfl) (Nat.le_of_ble_eq_true rfl) ?_
  refine va_putF (D := D) (ci := 5) (v := .ref q5) (ty := .object "DollGarlands$Row") (C := rfRX5) (T := rfTX5) (N := 2) hx hb hts rf_in_X5_init_X5 rftyX5 rftyX5_ok rfnmX5 hown hK hP hD hS 0 rfl rfl 0 (by decide) (hts _ (List.mem_of_getElem? (i := 7) rfl)) (fun _ h9 => h9) rfl hin rfl (by decide +kernel) rfl rfl (Nat.le_of_ble_eq_true rfl) rfdX5_init_14 (fun H locs hP hD hS => ?_)
  have hP : va_P D rf_cl [(h0, .inr (5, [.ref q5, .int 0])), (q5, .inr (3, [.ref z11])), (z11, .inl (cA, 80, .inl rf_Z))] H := hP
  have hD : va_D A [(h0, .inr (5, [.ref q5, .int 0])), (q5, .inr (3, [.ref z11])), (z11, .inl (cA, 80, .inl rf_Z))] := hD
  refine lv_aload_n hx hb rfdX5_init_17 rfl (lv_at hl 0 rfl) ?_
  refine lv_iconst (v := 0) hx hb rfdX5_init_18 (by decide) ?_
  refine va_put (D := D) (ci := 5) (v := .int 0) (ty := .int) (C := rfRX5) (T := rfTX5) (N := 2) hx hb hts rf_in_X5_init_X5 rftyX5 rftyX5_ok rfnmX5 hown hK hP hD hS 0 rfl rfl 1 (by decide) (hts _ (List.mem_of_getElem? (i := 8) rfl)) (fun _ h9 => h9) rfl (by decide +kernel) rfl rfl (Nat.le_of_ble_eq_true rfl) rfdX5_init_19 (fun H locs hP hD hS => ?_)
  have hP : va_P D rf_cl [(h0, .inr (5, [.ref q5, .int 0])), (q5, .inr (3, [.ref z11])), (z11, .inl (cA, 80, .inl rf_Z))] H := hP
  have hD : va_D A [(h0, .inr (5, [.ref q5, .int 0])), (q5, .inr (3, [.ref z11])), (z11, .inl (cA, 80, .inl rf_Z))] := hD
  exact RET _ _ _ _ () rfdX5_init_22 (hP.sub [] rfl) (hD.sub [] (by decide) rfl) hS
set_option maxHeartbeats 4000000 in
set_option maxRecDepth 100000 in
theorem rf_c_X6_init (l : Launch) (D : va_G) (cA : ClassId) (h0 : Nat) : rf_M l D cA rfyX6_init rfwsX6_init { frames := 3, cells := 21, slots := 1907, locals := 62 } [.ref h0] [(h0, .inr (6, [.null, .null, .null, .null, .null, .null, .null, .int 0]))] 21 1907 (S := Nat) (fun z => [(z, .inl (cA, 1144, .inl rf_Z))]) := by
  refine rf_of (cc := rfcX6_init) (maxL := 1) (by decide) rfl (Nat.le_of_ble_eq_true rfl) ?_
  intro p e s m args below meth c Q A ls F hin hK hP hD hA hS hl RET
  obtain ⟨hx, hb, hml, hown, hts⟩ := id F
  have hl : lv_has ls 1 [(0, .ref h0)] := hl
  refine lv_aload_n hx hb rfdX6_init_0 rfl (lv_at hl 0 rfl) ?_
  refine W.objInit hx hb hown (hts _ (List.mem_of_getElem? (i := 1) rfl)) (hts _ (List.mem_of_getElem? (i := 2) rfl)) (hts _ (List.mem_of_getElem? (i := 3) rfl)) rfl (by rw [hml]; exact hl.1) rfl rfdX6_init_1 (Nat.le_of_ble_eq_true rfl) (Nat.le_of_ble_eq_true rfl) ?_
  refine W.eq (g2 := F0 m 4 ls []) rfl ?_
  refine lv_aload_n hx hb rfdX6_init_4 rfl (lv_at hl 0 rfl) ?_
  refine va_new (ci := 4) (fs := [.null]) (C := rfRX4) (T := rfTX4) (N := 1) hx hb hts rf_in_X6_init_X4 rftyX4 rftyX4_ok hown (hts _ (List.mem_of_getElem? (i := 4) rfl)) (hts _ (List.mem_of_getElem? (i := 5) rfl)) (hts _ (List.mem_of_getElem? (i := 6) rfl)) hK hP hD hS hA rfl (fun j hj => by rcases (show j = 0 by omega) with rfl <;> rfl) (Nat.le_of_ble_eq_true rfl) (Nat.le_of_ble_eq_true rfl) rfdX6_init_5 (fun q5 H hP hD hS => ?_)
  have hP : va_P D rf_cl [(h0, .inr (6, [.null, .null, .null, .null, .null, .null, .null, .int 0])), (q5, .inr (4, [.null]))] H := hP
  have hD : va_D A [(h0, .inr (6, [.null, .null, .null, .null, .null, .null, .null, .int 0])), (q5, .inr (4, [.null]))] := hD
  refine W.widen (k := 1) (n := 1) (Nat.le_of_ble_eq_true rfl) (Nat.le_of_ble_eq_true rfl) ?_
  refine lv_dup hx hb rfdX6_init_8 rfl ?_
  refine rf_call (wr := [(h0, .inr (6, [.null, .null, .null, .null, .null, .null, .null, .int 0]))]) (As := []) (rest := [.ref q5, .ref h0]) ⟨hx, hb, hml, hown, hts⟩ (rf_c_X4_init l D cA q5) (cwI 0 hts rf_g_X6_init_X4_init rfl rfl rfl (hts _ (List.mem_of_getElem? (i := 6) rfl)) (hts _ (List.mem_of_getElem? (i := 30) rfl)) (hts _ (List.mem_of_getElem? (i := 31) rfl)) rfl rf_yd_X4_init ⟨Nat.le_of_ble_eq_true rfl, Nat.le_of_ble_eq_true rfl⟩) hK hP hD hA hS [1] [0] rfl rfl (by decide) (by decide) (by decide) rfl hl.1 rfl (Nat.le_of_ble_eq_true rfl) rfdX6_init_9 ⟨Nat.le_of_ble_eq_true rfl, Nat.le_of_ble_eq_true rfl⟩ (fun _u H locs hP hD hS => ?_)
  have hP : va_P D rf_cl [(h0, .inr (6, [.null, .null, .null, .null, .null, .null, .null, .int 0]))] H := hP
  have hD : va_D A [(h0, .inr (6, [.null, .null, .null, .null, .null, .null, .null, .int 0]))] := hD
  refine W.widen (k := 3) (n := 288) (Nat.le_of_ble_eq_true rfl) (Nat.le_of_ble_eq_true rfl) ?_
  refine va_putF (D := D) (ci := 6) (v := .ref q5) (ty := .object "DollGarlands$Table") (C := rfRX6) (T := rfTX6) (N := 8) hx hb hts rf_in_X6_init_X6 rftyX6 rftyX6_ok rfnmX6 hown hK hP hD hS 0 rfl rfl 0 (by decide) (hts _ (List.mem_of_getElem? (i := 7) rfl)) (fun _ h9 => h9) rfl hin rfl (by decide +kernel) rfl rfl (Nat.le_of_ble_eq_true rfl) rfdX6_init_12 (fun H locs hP hD hS => ?_)
  have hP : va_P D rf_cl [(h0, .inr (6, [.ref q5, .null, .null, .null, .null, .null, .null, .int 0]))] H := hP
  have hD : va_D A [(h0, .inr (6, [.ref q5, .null, .null, .null, .null, .null, .null, .int 0]))] := hD
  refine lv_aload_n hx hb rfdX6_init_15 rfl (lv_at hl 0 rfl) ?_
  refine va_new (ci := 2) (fs := [.null]) (C := rfRX2) (T := rfTX2) (N := 1) hx hb hts rf_in_X6_init_X2 rftyX2 rftyX2_ok hown (hts _ (List.mem_of_getElem? (i := 8) rfl)) (hts _ (List.mem_of_getElem? (i := 9) rfl)) (hts _ (List.mem_of_getElem? (i := 10) rfl)) hK hP hD hS hA rfl (fun j hj => by rcases (show j = 0 by omega) with rfl <;> rfl) (Nat.le_of_ble_eq_true rfl) (Nat.le_of_ble_eq_true rfl) rfdX6_init_16 (fun q16 H hP hD hS => ?_)
  have hP : va_P D rf_cl [(h0, .inr (6, [.ref q5, .null, .null, .null, .null, .null, .null, .int 0])), (q16, .inr (2, [.null]))] H := hP
  have hD : va_D A [(h0, .inr (6, [.ref q5, .null, .null, .null, .null, .null, .null, .int 0])), (q16, .inr (2, [.null]))] := hD
  refine W.widen (k := 4) (n := 289) (Nat.le_of_ble_eq_true rfl) (Nat.le_of_ble_eq_true rfl) ?_
  refine lv_dup hx hb rfdX6_init_19 rfl ?_
  refine lv_aload_n hx hb rfdX6_init_20 rfl (lv_at hl 0 rfl) ?_
  refine va_get (D := D) (ci := 6) (v := .ref q5) (C := rfRX6) (T := rfTX6) (N := 8) hx hb hts rf_in_X6_init_X6 hown hK hP 0 rfl rfl 0 (by decide) (hts _ (List.mem_of_getElem? (i := 7) rfl)) (fun _ h9 => h9) rfl rfdX6_init_21 ?_
  refine rf_call (wr := [(h0, .inr (6, [.ref q5, .null, .null, .null, .null, .null, .null, .int 0]))]) (As := [.ref q5]) (rest := [.ref q16, .ref h0]) ⟨hx, hb, hml, hown, hts⟩ (rf_c_X2_init l D cA q16 q5) (cwI 1 hts rf_g_X6_init_X2_init rfl rfl rfl (hts _ (List.mem_of_getElem? (i := 10) rfl)) (hts _ (List.mem_of_getElem? (i := 46) rfl)) (hts _ (List.mem_of_getElem? (i := 47) rfl)) rfl rf_yd_X2_init ⟨Nat.le_of_ble_eq_true rfl, Nat.le_of_ble_eq_true rfl⟩) hK hP hD hA hS [1] [0] rfl rfl (by decide) (by decide) (by decide) rfl hl.1 rfl (Nat.le_of_ble_eq_true rfl) rfdX6_init_24 ⟨Nat.le_of_ble_eq_true rfl, Nat.le_of_ble_eq_true rfl⟩ (fun _u H locs hP hD hS => ?_)
  have hP : va_P D rf_cl [(h0, .inr (6, [.ref q5, .null, .null, .null, .null, .null, .null, .int 0]))] H := hP
  have hD : va_D A [(h0, .inr (6, [.ref q5, .null, .null, .null, .null, .null, .null, .int 0]))] := hD
  refine W.widen (k := 4) (n := 289) (Nat.le_of_ble_eq_true rfl) (Nat.le_of_ble_eq_true rfl) ?_
  refine va_putF (D := D) (ci := 6) (v := .ref q16) (ty := .object "DollGarlands$Looks") (C := rfRX6) (T := rfTX6) (N := 8) hx hb hts rf_in_X6_init_X6 rftyX6 rftyX6_ok rfnmX6 hown hK hP hD hS 0 rfl rfl 1 (by decide) (hts _ (List.mem_of_getElem? (i := 11) rfl)) (fun _ h9 => h9) rfl hin rfl (by decide +kernel) rfl rfl (Nat.le_of_ble_eq_true rfl) rfdX6_init_27 (fun H locs hP hD hS => ?_)
  have hP : va_P D rf_cl [(h0, .inr (6, [.ref q5, .ref q16, .null, .null, .null, .null, .null, .int 0]))] H := hP
  have hD : va_D A [(h0, .inr (6, [.ref q5, .ref q16, .null, .null, .null, .null, .null, .int 0]))] := hD
  refine lv_aload_n hx hb rfdX6_init_30 rfl (lv_at hl 0 rfl) ?_
  refine va_new (ci := 0) (fs := [.null, .null, .null, .null]) (C := rfRX0) (T := rfTX0) (N := 4) hx hb hts rf_in_X6_init_X0 rftyX0 rftyX0_ok hown (hts _ (List.mem_of_getElem? (i := 12) rfl)) (hts _ (List.mem_of_getElem? (i := 13) rfl)) (hts _ (List.mem_of_getElem? (i := 14) rfl)) hK hP hD hS hA rfl (fun j hj => by rcases (show j = 0 ∨ j = 1 ∨ j = 2 ∨ j = 3 by omega) with rfl | rfl | rfl | rfl <;> rfl) (Nat.le_of_ble_eq_true rfl) (Nat.le_of_ble_eq_true rfl) rfdX6_init_31 (fun q31 H hP hD hS => ?_)
  have hP : va_P D rf_cl [(h0, .inr (6, [.ref q5, .ref q16, .null, .null, .null, .null, .null, .int 0])), (q31, .inr (0, [.null, .null, .null, .null]))] H := hP
  have hD : va_D A [(h0, .inr (6, [.ref q5, .ref q16, .null, .null, .null, .null, .null, .int 0])), (q31, .inr (0, [.null, .null, .null, .null]))] := hD
  refine W.widen (k := 5) (n := 293) (Nat.le_of_ble_eq_true rfl) (Nat.le_of_ble_eq_true rfl) ?_
  refine lv_dup hx hb rfdX6_init_34 rfl ?_
  refine lv_aload_n hx hb rfdX6_init_35 rfl (lv_at hl 0 rfl) ?_
  refine va_get (D := D) (ci := 6) (v := .ref q5) (C := rfRX6) (T := rfTX6) (N := 8) hx hb hts rf_in_X6_init_X6 hown hK hP 0 rfl rfl 0 (by decide) (hts _ (List.mem_of_getElem? (i := 7) rfl)) (fun _ h9 => h9) rfl rfdX6_init_36 ?_
  refine rf_call (wr := [(h0, .inr (6, [.ref q5, .ref q16, .null, .null, .null, .null, .null, .int 0]))]) (As := [.ref q5]) (rest := [.ref q31, .ref h0]) ⟨hx, hb, hml, hown, hts⟩ (rf_c_X0_init l D cA q31 q5) (cwI 1 hts rf_g_X6_init_X0_init rfl rfl rfl (hts _ (List.mem_of_getElem? (i := 14) rfl)) (hts _ (List.mem_of_getElem? (i := 51) rfl)) (hts _ (List.mem_of_getElem? (i := 52) rfl)) rfl rf_yd_X0_init ⟨Nat.le_of_ble_eq_true rfl, Nat.le_of_ble_eq_true rfl⟩) hK hP hD hA hS [1] [0] rfl rfl (by decide) (by decide) (by decide) rfl hl.1 rfl (Nat.le_of_ble_eq_true rfl) rfdX6_init_39 ⟨Nat.le_of_ble_eq_true rfl, Nat.le_of_ble_eq_true rfl⟩ (fun _u H locs hP hD hS => ?_)
  have hP : va_P D rf_cl [(h0, .inr (6, [.ref q5, .ref q16, .null, .null, .null, .null, .null, .int 0]))] H := hP
  have hD : va_D A [(h0, .inr (6, [.ref q5, .ref q16, .null, .null, .null, .null, .null, .int 0]))] := hD
  refine W.widen (k := 11) (n := 356) (Nat.le_of_ble_eq_true rfl) (Nat.le_of_ble_eq_true rfl) ?_
  refine va_putF (D := D) (ci := 6) (v := .ref q31) (ty := .object "DollGarlands$Chains") (C := rfRX6) (T := rfTX6) (N := 8) hx hb hts rf_in_X6_init_X6 rftyX6 rftyX6_ok rfnmX6 hown hK hP hD hS 0 rfl rfl 2 (by decide) (hts _ (List.mem_of_getElem? (i := 15) rfl)) (fun _ h9 => h9) rfl hin rfl (by decide +kernel) rfl rfl (Nat.le_of_ble_eq_true rfl) rfdX6_init_42 (fun H locs hP hD hS => ?_)
  have hP : va_P D rf_cl [(h0, .inr (6, [.ref q5, .ref q16, .ref q31, .null, .null, .null, .null, .int 0]))] H := hP
  have hD : va_D A [(h0, .inr (6, [.ref q5, .ref q16, .ref q31, .null, .null, .null, .null, .int 0]))] := hD
  refine lv_aload_n hx hb rfdX6_init_45 rfl (lv_at hl 0 rfl) ?_
  refine va_new (ci := 1) (fs := [.null, .int 0, .int 0]) (C := rfRX1) (T := rfTX1) (N := 3) hx hb hts rf_in_X6_init_X1 rftyX1 rftyX1_ok hown (hts _ (List.mem_of_getElem? (i := 16) rfl)) (hts _ (List.mem_of_getElem? (i := 17) rfl)) (hts _ (List.mem_of_getElem? (i := 18) rfl)) hK hP hD hS hA rfl (fun j hj => by rcases (show j = 0 ∨ j = 1 ∨ j = 2 by omega) with rfl | rfl | rfl <;> rfl) (Nat.le_of_ble_eq_true rfl) (Nat.le_of_ble_eq_true rfl) rfdX6_init_46 (fun q46 H hP hD hS => ?_)
  have hP : va_P D rf_cl [(h0, .inr (6, [.ref q5, .ref q16, .ref q31, .null, .null, .null, .null, .int 0])), (q46, .inr (1, [.null, .int 0, .int 0]))] H := hP
  have hD : va_D A [(h0, .inr (6, [.ref q5, .ref q16, .ref q31, .null, .null, .null, .null, .int 0])), (q46, .inr (1, [.null, .int 0, .int 0]))] := hD
  refine W.widen (k := 12) (n := 359) (Nat.le_of_ble_eq_true rfl) (Nat.le_of_ble_eq_true rfl) ?_
  refine lv_dup hx hb rfdX6_init_49 rfl ?_
  refine rf_call (wr := [(h0, .inr (6, [.ref q5, .ref q16, .ref q31, .null, .null, .null, .null, .int 0]))]) (As := []) (rest := [.ref q46, .ref h0]) ⟨hx, hb, hml, hown, hts⟩ (rf_c_X1_init l D cA q46) (cwI 0 hts rf_g_X6_init_X1_init rfl rfl rfl (hts _ (List.mem_of_getElem? (i := 18) rfl)) (hts _ (List.mem_of_getElem? (i := 61) rfl)) (hts _ (List.mem_of_getElem? (i := 62) rfl)) rfl rf_yd_X1_init ⟨Nat.le_of_ble_eq_true rfl, Nat.le_of_ble_eq_true rfl⟩) hK hP hD hA hS [1] [0] rfl rfl (by decide) (by decide) (by decide) rfl hl.1 rfl (Nat.le_of_ble_eq_true rfl) rfdX6_init_50 ⟨Nat.le_of_ble_eq_true rfl, Nat.le_of_ble_eq_true rfl⟩ (fun z50 H locs hP hD hS => ?_)
  have hP : va_P D rf_cl [(h0, .inr (6, [.ref q5, .ref q16, .ref q31, .null, .null, .null, .null, .int 0])), (z50, .inl (cA, 1144, .inl rf_Z))] H := hP
  have hD : va_D A [(h0, .inr (6, [.ref q5, .ref q16, .ref q31, .null, .null, .null, .null, .int 0])), (z50, .inl (cA, 1144, .inl rf_Z))] := hD
  refine W.widen (k := 14) (n := 1504) (Nat.le_of_ble_eq_true rfl) (Nat.le_of_ble_eq_true rfl) ?_
  refine va_putF (D := D) (ci := 6) (v := .ref q46) (ty := .object "DollGarlands$History") (C := rfRX6) (T := rfTX6) (N := 8) hx hb hts rf_in_X6_init_X6 rftyX6 rftyX6_ok rfnmX6 hown hK hP hD hS 0 rfl rfl 3 (by decide) (hts _ (List.mem_of_getElem? (i := 19) rfl)) (fun _ h9 => h9) rfl hin rfl (by decide +kernel) rfl rfl (Nat.le_of_ble_eq_true rfl) rfdX6_init_53 (fun H locs hP hD hS => ?_)
  have hP : va_P D rf_cl [(h0, .inr (6, [.ref q5, .ref q16, .ref q31, .ref q46, .null, .null, .null, .int 0])), (z50, .inl (cA, 1144, .inl rf_Z))] H := hP
  have hD : va_D A [(h0, .inr (6, [.ref q5, .ref q16, .ref q31, .ref q46, .null, .null, .null, .int 0])), (z50, .inl (cA, 1144, .inl rf_Z))] := hD
  refine lv_aload_n hx hb rfdX6_init_56 rfl (lv_at hl 0 rfl) ?_
  refine va_new (ci := 5) (fs := [.null, .int 0]) (C := rfRX5) (T := rfTX5) (N := 2) hx hb hts rf_in_X6_init_X5 rftyX5 rftyX5_ok hown (hts _ (List.mem_of_getElem? (i := 20) rfl)) (hts _ (List.mem_of_getElem? (i := 21) rfl)) (hts _ (List.mem_of_getElem? (i := 22) rfl)) hK hP hD hS hA rfl (fun j hj => by rcases (show j = 0 ∨ j = 1 by omega) with rfl | rfl <;> rfl) (Nat.le_of_ble_eq_true rfl) (Nat.le_of_ble_eq_true rfl) rfdX6_init_57 (fun q57 H hP hD hS => ?_)
  have hP : va_P D rf_cl [(h0, .inr (6, [.ref q5, .ref q16, .ref q31, .ref q46, .null, .null, .null, .int 0])), (z50, .inl (cA, 1144, .inl rf_Z)), (q57, .inr (5, [.null, .int 0]))] H := hP
  have hD : va_D A [(h0, .inr (6, [.ref q5, .ref q16, .ref q31, .ref q46, .null, .null, .null, .int 0])), (z50, .inl (cA, 1144, .inl rf_Z)), (q57, .inr (5, [.null, .int 0]))] := hD
  refine W.widen (k := 15) (n := 1506) (Nat.le_of_ble_eq_true rfl) (Nat.le_of_ble_eq_true rfl) ?_
  refine lv_dup hx hb rfdX6_init_60 rfl ?_
  refine rf_call (wr := [(h0, .inr (6, [.ref q5, .ref q16, .ref q31, .ref q46, .null, .null, .null, .int 0])), (z50, .inl (cA, 1144, .inl rf_Z))]) (As := []) (rest := [.ref q57, .ref h0]) ⟨hx, hb, hml, hown, hts⟩ (rf_c_X5_init l D cA q57) (cwI 0 hts rf_g_X6_init_X5_init rfl rfl rfl (hts _ (List.mem_of_getElem? (i := 22) rfl)) (hts _ (List.mem_of_getElem? (i := 70) rfl)) (hts _ (List.mem_of_getElem? (i := 71) rfl)) rfl rf_yd_X5_init ⟨Nat.le_of_ble_eq_true rfl, Nat.le_of_ble_eq_true rfl⟩) hK hP hD hA hS [2] [0, 1] rfl rfl (by decide) (by decide) (by decide) rfl hl.1 rfl (Nat.le_of_ble_eq_true rfl) rfdX6_init_61 ⟨Nat.le_of_ble_eq_true rfl, Nat.le_of_ble_eq_true rfl⟩ (fun _u H locs hP hD hS => ?_)
  have hP : va_P D rf_cl [(h0, .inr (6, [.ref q5, .ref q16, .ref q31, .ref q46, .null, .null, .null, .int 0])), (z50, .inl (cA, 1144, .inl rf_Z))] H := hP
  have hD : va_D A [(h0, .inr (6, [.ref q5, .ref q16, .ref q31, .ref q46, .null, .null, .null, .int 0])), (z50, .inl (cA, 1144, .inl rf_Z))] := hD
  refine W.widen (k := 17) (n := 1587) (Nat.le_of_ble_eq_true rfl) (Nat.le_of_ble_eq_true rfl) ?_
  refine va_putF (D := D) (ci := 6) (v := .ref q57) (ty := .object "DollGarlands$Text") (C := rfRX6) (T := rfTX6) (N := 8) hx hb hts rf_in_X6_init_X6 rftyX6 rftyX6_ok rfnmX6 hown hK hP hD hS 0 rfl rfl 4 (by decide) (hts _ (List.mem_of_getElem? (i := 23) rfl)) (fun _ h9 => h9) rfl hin rfl (by decide +kernel) rfl rfl (Nat.le_of_ble_eq_true rfl) rfdX6_init_64 (fun H locs hP hD hS => ?_)
  have hP : va_P D rf_cl [(h0, .inr (6, [.ref q5, .ref q16, .ref q31, .ref q46, .ref q57, .null, .null, .int 0])), (z50, .inl (cA, 1144, .inl rf_Z))] H := hP
  have hD : va_D A [(h0, .inr (6, [.ref q5, .ref q16, .ref q31, .ref q46, .ref q57, .null, .null, .int 0])), (z50, .inl (cA, 1144, .inl rf_Z))] := hD
  refine lv_aload_n hx hb rfdX6_init_67 rfl (lv_at hl 0 rfl) ?_
  refine va_new (ci := 3) (fs := [.null]) (C := rfRX3) (T := rfTX3) (N := 1) hx hb hts rf_in_X6_init_X3 rftyX3 rftyX3_ok hown (hts _ (List.mem_of_getElem? (i := 24) rfl)) (hts _ (List.mem_of_getElem? (i := 25) rfl)) (hts _ (List.mem_of_getElem? (i := 26) rfl)) hK hP hD hS hA rfl (fun j hj => by rcases (show j = 0 by omega) with rfl <;> rfl) (Nat.le_of_ble_eq_true rfl) (Nat.le_of_ble_eq_true rfl) rfdX6_init_68 (fun q68 H hP hD hS => ?_)
  have hP : va_P D rf_cl [(h0, .inr (6, [.ref q5, .ref q16, .ref q31, .ref q46, .ref q57, .null, .null, .int 0])), (z50, .inl (cA, 1144, .inl rf_Z)), (q68, .inr (3, [.null]))] H := hP
  have hD : va_D A [(h0, .inr (6, [.ref q5, .ref q16, .ref q31, .ref q46, .ref q57, .null, .null, .int 0])), (z50, .inl (cA, 1144, .inl rf_Z)), (q68, .inr (3, [.null]))] := hD
  refine W.widen (k := 18) (n := 1588) (Nat.le_of_ble_eq_true rfl) (Nat.le_of_ble_eq_true rfl) ?_
  refine lv_dup hx hb rfdX6_init_71 rfl ?_
  refine lv_sipush (v := (nI 286)) hx hb rfdX6_init_72 (by decide) ?_
  refine rf_call (wr := [(h0, .inr (6, [.ref q5, .ref q16, .ref q31, .ref q46, .ref q57, .null, .null, .int 0])), (z50, .inl (cA, 1144, .inl rf_Z))]) (As := [.int (nI 286)]) (rest := [.ref q68, .ref h0]) ⟨hx, hb, hml, hown, hts⟩ (rf_c_X3_init l D cA q68 286 (by decide) (by decide)) (cwI 1 hts rf_g_X6_init_X3_init rfl rfl rfl (hts _ (List.mem_of_getElem? (i := 26) rfl)) (hts _ (List.mem_of_getElem? (i := 78) rfl)) (hts _ (List.mem_of_getElem? (i := 37) rfl)) rfl rf_yd_X3_init ⟨Nat.le_of_ble_eq_true rfl, Nat.le_of_ble_eq_true rfl⟩) hK hP hD hA hS [2] [0, 1] rfl rfl (by decide) (by decide) (by decide) rfl hl.1 rfl (Nat.le_of_ble_eq_true rfl) rfdX6_init_75 ⟨Nat.le_of_ble_eq_true rfl, Nat.le_of_ble_eq_true rfl⟩ (fun z75 H locs hP hD hS => ?_)
  have hP : va_P D rf_cl [(h0, .inr (6, [.ref q5, .ref q16, .ref q31, .ref q46, .ref q57, .null, .null, .int 0])), (z50, .inl (cA, 1144, .inl rf_Z)), (q68, .inr (3, [.ref z75])), (z75, .inl (cA, 286, .inl rf_Z))] H := hP
  have hD : va_D A [(h0, .inr (6, [.ref q5, .ref q16, .ref q31, .ref q46, .ref q57, .null, .null, .int 0])), (z50, .inl (cA, 1144, .inl rf_Z)), (q68, .inr (3, [.ref z75])), (z75, .inl (cA, 286, .inl rf_Z))] := hD
  refine W.widen (k := 19) (n := 1874) (Nat.le_of_ble_eq_true rfl) (Nat.le_of_ble_eq_true rfl) ?_
  refine va_putF (D := D) (ci := 6) (v := .ref q68) (ty := .object "DollGarlands$Row") (C := rfRX6) (T := rfTX6) (N := 8) hx hb hts rf_in_X6_init_X6 rftyX6 rftyX6_ok rfnmX6 hown hK hP hD hS 0 rfl rfl 5 (by decide) (hts _ (List.mem_of_getElem? (i := 27) rfl)) (fun _ h9 => h9) rfl hin rfl (by decide +kernel) rfl rfl (Nat.le_of_ble_eq_true rfl) rfdX6_init_78 (fun H locs hP hD hS => ?_)
  have hP : va_P D rf_cl [(h0, .inr (6, [.ref q5, .ref q16, .ref q31, .ref q46, .ref q57, .ref q68, .null, .int 0])), (z50, .inl (cA, 1144, .inl rf_Z)), (q68, .inr (3, [.ref z75])), (z75, .inl (cA, 286, .inl rf_Z))] H := hP
  have hD : va_D A [(h0, .inr (6, [.ref q5, .ref q16, .ref q31, .ref q46, .ref q57, .ref q68, .null, .int 0])), (z50, .inl (cA, 1144, .inl rf_Z)), (q68, .inr (3, [.ref z75])), (z75, .inl (cA, 286, .inl rf_Z))] := hD
  refine lv_aload_n hx hb rfdX6_init_81 rfl (lv_at hl 0 rfl) ?_
  refine va_new (ci := 3) (fs := [.null]) (C := rfRX3) (T := rfTX3) (N := 1) hx hb hts rf_in_X6_init_X3 rftyX3 rftyX3_ok hown (hts _ (List.mem_of_getElem? (i := 24) rfl)) (hts _ (List.mem_of_getElem? (i := 25) rfl)) (hts _ (List.mem_of_getElem? (i := 26) rfl)) hK hP hD hS hA rfl (fun j hj => by rcases (show j = 0 by omega) with rfl <;> rfl) (Nat.le_of_ble_eq_true rfl) (Nat.le_of_ble_eq_true rfl) rfdX6_init_82 (fun q82 H hP hD hS => ?_)
  have hP : va_P D rf_cl [(h0, .inr (6, [.ref q5, .ref q16, .ref q31, .ref q46, .ref q57, .ref q68, .null, .int 0])), (z50, .inl (cA, 1144, .inl rf_Z)), (q68, .inr (3, [.ref z75])), (z75, .inl (cA, 286, .inl rf_Z)), (q82, .inr (3, [.null]))] H := hP
  have hD : va_D A [(h0, .inr (6, [.ref q5, .ref q16, .ref q31, .ref q46, .ref q57, .ref q68, .null, .int 0])), (z50, .inl (cA, 1144, .inl rf_Z)), (q68, .inr (3, [.ref z75])), (z75, .inl (cA, 286, .inl rf_Z)), (q82, .inr (3, [.null]))] := hD
  refine W.widen (k := 20) (n := 1875) (Nat.le_of_ble_eq_true rfl) (Nat.le_of_ble_eq_true rfl) ?_
  refine lv_dup hx hb rfdX6_init_85 rfl ?_
  refine lv_bipush (v := (nI 32)) hx hb rfdX6_init_86 (by decide) ?_
  refine rf_call (wr := [(h0, .inr (6, [.ref q5, .ref q16, .ref q31, .ref q46, .ref q57, .ref q68, .null, .int 0])), (z50, .inl (cA, 1144, .inl rf_Z)), (q68, .inr (3, [.ref z75])), (z75, .inl (cA, 286, .inl rf_Z))]) (As := [.int (nI 32)]) (rest := [.ref q82, .ref h0]) ⟨hx, hb, hml, hown, hts⟩ (rf_c_X3_init l D cA q82 32 (by decide) (by decide)) (cwI 1 hts rf_g_X6_init_X3_init rfl rfl rfl (hts _ (List.mem_of_getElem? (i := 26) rfl)) (hts _ (List.mem_of_getElem? (i := 78) rfl)) (hts _ (List.mem_of_getElem? (i := 37) rfl)) rfl rf_yd_X3_init ⟨Nat.le_of_ble_eq_true rfl, Nat.le_of_ble_eq_true rfl⟩) hK hP hD hA hS [4] [0, 1, 2, 3] rfl rfl (by decide) (by decide) (by decide) rfl hl.1 rfl (Nat.le_of_ble_eq_true rfl) rfdX6_init_88 ⟨Nat.le_of_ble_eq_true rfl, Nat.le_of_ble_eq_true rfl⟩ (fun z88 H locs hP hD hS => ?_)
  have hP : va_P D rf_cl [(h0, .inr (6, [.ref q5, .ref q16, .ref q31, .ref q46, .ref q57, .ref q68, .null, .int 0])), (z50, .inl (cA, 1144, .inl rf_Z)), (q68, .inr (3, [.ref z75])), (z75, .inl (cA, 286, .inl rf_Z)), (q82, .inr (3, [.ref z88])), (z88, .inl (cA, 32, .inl rf_Z))] H := hP
  have hD : va_D A [(h0, .inr (6, [.ref q5, .ref q16, .ref q31, .ref q46, .ref q57, .ref q68, .null, .int 0])), (z50, .inl (cA, 1144, .inl rf_Z)), (q68, .inr (3, [.ref z75])), (z75, .inl (cA, 286, .inl rf_Z)), (q82, .inr (3, [.ref z88])), (z88, .inl (cA, 32, .inl rf_Z))] := hD
  refine W.widen (k := 21) (n := 1907) (Nat.le_of_ble_eq_true rfl) (Nat.le_of_ble_eq_true rfl) ?_
  refine va_putF (D := D) (ci := 6) (v := .ref q82) (ty := .object "DollGarlands$Row") (C := rfRX6) (T := rfTX6) (N := 8) hx hb hts rf_in_X6_init_X6 rftyX6 rftyX6_ok rfnmX6 hown hK hP hD hS 0 rfl rfl 6 (by decide) (hts _ (List.mem_of_getElem? (i := 28) rfl)) (fun _ h9 => h9) rfl hin rfl (by decide +kernel) rfl rfl (Nat.le_of_ble_eq_true rfl) rfdX6_init_91 (fun H locs hP hD hS => ?_)
  have hP : va_P D rf_cl [(h0, .inr (6, [.ref q5, .ref q16, .ref q31, .ref q46, .ref q57, .ref q68, .ref q82, .int 0])), (z50, .inl (cA, 1144, .inl rf_Z)), (q68, .inr (3, [.ref z75])), (z75, .inl (cA, 286, .inl rf_Z)), (q82, .inr (3, [.ref z88])), (z88, .inl (cA, 32, .inl rf_Z))] H := hP
  have hD : va_D A [(h0, .inr (6, [.ref q5, .ref q16, .ref q31, .ref q46, .ref q57, .ref q68, .ref q82, .int 0])), (z50, .inl (cA, 1144, .inl rf_Z)), (q68, .inr (3, [.ref z75])), (z75, .inl (cA, 286, .inl rf_Z)), (q82, .inr (3, [.ref z88])), (z88, .inl (cA, 32, .inl rf_Z))] := hD
  refine lv_aload_n hx hb rfdX6_init_94 rfl (lv_at hl 0 rfl) ?_
  refine lv_iconst (v := 0) hx hb rfdX6_init_95 (by decide) ?_
  refine va_put (D := D) (ci := 6) (v := .int 0) (ty := .boolean) (C := rfRX6) (T := rfTX6) (N := 8) hx hb hts rf_in_X6_init_X6 rftyX6 rftyX6_ok rfnmX6 hown hK hP hD hS 0 rfl rfl 7 (by decide) (hts _ (List.mem_of_getElem? (i := 29) rfl)) (fun _ h9 => h9) rfl (by decide +kernel) rfl rfl (Nat.le_of_ble_eq_true rfl) rfdX6_init_96 (fun H locs hP hD hS => ?_)
  have hP : va_P D rf_cl [(h0, .inr (6, [.ref q5, .ref q16, .ref q31, .ref q46, .ref q57, .ref q68, .ref q82, .int 0])), (z50, .inl (cA, 1144, .inl rf_Z)), (q68, .inr (3, [.ref z75])), (z75, .inl (cA, 286, .inl rf_Z)), (q82, .inr (3, [.ref z88])), (z88, .inl (cA, 32, .inl rf_Z))] H := hP
  have hD : va_D A [(h0, .inr (6, [.ref q5, .ref q16, .ref q31, .ref q46, .ref q57, .ref q68, .ref q82, .int 0])), (z50, .inl (cA, 1144, .inl rf_Z)), (q68, .inr (3, [.ref z75])), (z75, .inl (cA, 286, .inl rf_Z)), (q82, .inr (3, [.ref z88])), (z88, .inl (cA, 32, .inl rf_Z))] := hD
  exact RET _ _ _ _ z50 rfdX6_init_99 (hP.sub [1] rfl) (hD.sub [1] (by decide) rfl) hS
theorem rf_x1 : ∀ k : Nat, k < 10 → vp_in (2 + 2 * nI k) 286 := by unfold vp_in; decide +kernel
theorem rf_x2 : ∀ k : Nat, k < 10 → vp_in (2 + 2 * nI k + 1) 286 := by unfold vp_in; decide +kernel
set_option maxHeartbeats 4000000 in
set_option maxRecDepth 100000 in
theorem rf_c_X7_init (l : Launch) (D : va_G) (cA : ClassId) (h0 : Nat) : rf_M l D cA rfyX7_init rfwsX7_init { frames := 1, cells := 9, slots := 2174, locals := 20 } [.ref h0] [(h0, .inr (7, [.null, .null, .null, .int 0, .null, .int 0, .null, .null, .int 0, .int 0, .int 0, .null, .null, .null]))] 9 2174 (S := Nat) (fun z => [(z, .inl (cA, 1144, .inl rf_Z))]) := by
  refine rf_of (cc := rfcX7_init) (maxL := 2) (by decide) rfl (Nat.le_of_ble_eq_true rfl) ?_
  intro p e s m args below meth c Q A ls F hin hK hP hD hA hS hl RET
  obtain ⟨hx, hb, hml, hown, hts⟩ := id F
  have hl : lv_has ls 2 [(0, .ref h0)] := hl
  refine lv_aload_n hx hb rfdX7_init_0 rfl (lv_at hl 0 rfl) ?_
  refine W.objInit hx hb hown (hts _ (List.mem_of_getElem? (i := 1) rfl)) (hts _ (List.mem_of_getElem? (i := 2) rfl)) (hts _ (List.mem_of_getElem? (i := 3) rfl)) rfl (by rw [hml]; exact hl.1) rfl rfdX7_init_1 (Nat.le_of_ble_eq_true rfl) (Nat.le_of_ble_eq_true rfl) ?_
  refine W.eq (g2 := F0 m 4 ls []) rfl ?_
  refine lv_aload_n hx hb rfdX7_init_4 rfl (lv_at hl 0 rfl) ?_
  refine lv_sipush (v := (nI 286)) hx hb rfdX7_init_5 (by decide) ?_
  refine rf_newa (N := 286) hx hb (hts _ (List.mem_of_getElem? (i := 4) rfl)) hK hP hD hS hA (by decide) (by decide) (by decide) (Nat.le_of_ble_eq_true rfl) (Nat.le_of_ble_eq_true rfl) rfdX7_init_8 (fun q8 H hP hD hS => ?_)
  have hP : va_P D rf_cl [(h0, .inr (7, [.null, .null, .null, .int 0, .null, .int 0, .null, .null, .int 0, .int 0, .int 0, .null, .null, .null])), (q8, .inl (cA, 286, .inl rf_Z))] H := hP
  have hD : va_D A [(h0, .inr (7, [.null, .null, .null, .int 0, .null, .int 0, .null, .null, .int 0, .int 0, .int 0, .null, .null, .null])), (q8, .inl (cA, 286, .inl rf_Z))] := hD
  refine W.widen (k := 1) (n := 286) (Nat.le_of_ble_eq_true rfl) (Nat.le_of_ble_eq_true rfl) ?_
  refine va_putF (D := D) (ci := 7) (v := .ref q8) (ty := .array .int) (C := rfRX7) (T := rfTX7) (N := 14) hx hb hts rf_in_X7_init_X7 rftyX7 rftyX7_ok rfnmX7 hown hK hP hD hS 0 rfl rfl 0 (by decide) (hts _ (List.mem_of_getElem? (i := 5) rfl)) (fun _ h9 => h9) rfl hin rfl (by decide +kernel) rfl rfl (Nat.le_of_ble_eq_true rfl) rfdX7_init_10 (fun H locs hP hD hS => ?_)
  have hP : va_P D rf_cl [(h0, .inr (7, [.ref q8, .null, .null, .int 0, .null, .int 0, .null, .null, .int 0, .int 0, .int 0, .null, .null, .null])), (q8, .inl (cA, 286, .inl rf_Z))] H := hP
  have hD : va_D A [(h0, .inr (7, [.ref q8, .null, .null, .int 0, .null, .int 0, .null, .null, .int 0, .int 0, .int 0, .null, .null, .null])), (q8, .inl (cA, 286, .inl rf_Z))] := hD
  refine lv_aload_n hx hb rfdX7_init_13 rfl (lv_at hl 0 rfl) ?_
  refine lv_sipush (v := (nI 286)) hx hb rfdX7_init_14 (by decide) ?_
  refine rf_newa (N := 286) hx hb (hts _ (List.mem_of_getElem? (i := 4) rfl)) hK hP hD hS hA (by decide) (by decide) (by decide) (Nat.le_of_ble_eq_true rfl) (Nat.le_of_ble_eq_true rfl) rfdX7_init_17 (fun q17 H hP hD hS => ?_)
  have hP : va_P D rf_cl [(h0, .inr (7, [.ref q8, .null, .null, .int 0, .null, .int 0, .null, .null, .int 0, .int 0, .int 0, .null, .null, .null])), (q8, .inl (cA, 286, .inl rf_Z)), (q17, .inl (cA, 286, .inl rf_Z))] H := hP
  have hD : va_D A [(h0, .inr (7, [.ref q8, .null, .null, .int 0, .null, .int 0, .null, .null, .int 0, .int 0, .int 0, .null, .null, .null])), (q8, .inl (cA, 286, .inl rf_Z)), (q17, .inl (cA, 286, .inl rf_Z))] := hD
  refine W.widen (k := 2) (n := 572) (Nat.le_of_ble_eq_true rfl) (Nat.le_of_ble_eq_true rfl) ?_
  refine va_putF (D := D) (ci := 7) (v := .ref q17) (ty := .array .int) (C := rfRX7) (T := rfTX7) (N := 14) hx hb hts rf_in_X7_init_X7 rftyX7 rftyX7_ok rfnmX7 hown hK hP hD hS 0 rfl rfl 1 (by decide) (hts _ (List.mem_of_getElem? (i := 6) rfl)) (fun _ h9 => h9) rfl hin rfl (by decide +kernel) rfl rfl (Nat.le_of_ble_eq_true rfl) rfdX7_init_19 (fun H locs hP hD hS => ?_)
  have hP : va_P D rf_cl [(h0, .inr (7, [.ref q8, .ref q17, .null, .int 0, .null, .int 0, .null, .null, .int 0, .int 0, .int 0, .null, .null, .null])), (q8, .inl (cA, 286, .inl rf_Z)), (q17, .inl (cA, 286, .inl rf_Z))] H := hP
  have hD : va_D A [(h0, .inr (7, [.ref q8, .ref q17, .null, .int 0, .null, .int 0, .null, .null, .int 0, .int 0, .int 0, .null, .null, .null])), (q8, .inl (cA, 286, .inl rf_Z)), (q17, .inl (cA, 286, .inl rf_Z))] := hD
  refine lv_aload_n hx hb rfdX7_init_22 rfl (lv_at hl 0 rfl) ?_
  refine lv_sipush (v := (nI 1144)) hx hb rfdX7_init_23 (by decide) ?_
  refine rf_newa (N := 1144) hx hb (hts _ (List.mem_of_getElem? (i := 4) rfl)) hK hP hD hS hA (by decide) (by decide) (by decide) (Nat.le_of_ble_eq_true rfl) (Nat.le_of_ble_eq_true rfl) rfdX7_init_26 (fun q26 H hP hD hS => ?_)
  have hP : va_P D rf_cl [(h0, .inr (7, [.ref q8, .ref q17, .null, .int 0, .null, .int 0, .null, .null, .int 0, .int 0, .int 0, .null, .null, .null])), (q8, .inl (cA, 286, .inl rf_Z)), (q17, .inl (cA, 286, .inl rf_Z)), (q26, .inl (cA, 1144, .inl rf_Z))] H := hP
  have hD : va_D A [(h0, .inr (7, [.ref q8, .ref q17, .null, .int 0, .null, .int 0, .null, .null, .int 0, .int 0, .int 0, .null, .null, .null])), (q8, .inl (cA, 286, .inl rf_Z)), (q17, .inl (cA, 286, .inl rf_Z)), (q26, .inl (cA, 1144, .inl rf_Z))] := hD
  refine W.widen (k := 3) (n := 1716) (Nat.le_of_ble_eq_true rfl) (Nat.le_of_ble_eq_true rfl) ?_
  refine va_putF (D := D) (ci := 7) (v := .ref q26) (ty := .array .int) (C := rfRX7) (T := rfTX7) (N := 14) hx hb hts rf_in_X7_init_X7 rftyX7 rftyX7_ok rfnmX7 hown hK hP hD hS 0 rfl rfl 2 (by decide) (hts _ (List.mem_of_getElem? (i := 7) rfl)) (fun _ h9 => h9) rfl hin rfl (by decide +kernel) rfl rfl (Nat.le_of_ble_eq_true rfl) rfdX7_init_28 (fun H locs hP hD hS => ?_)
  have hP : va_P D rf_cl [(h0, .inr (7, [.ref q8, .ref q17, .ref q26, .int 0, .null, .int 0, .null, .null, .int 0, .int 0, .int 0, .null, .null, .null])), (q8, .inl (cA, 286, .inl rf_Z)), (q17, .inl (cA, 286, .inl rf_Z)), (q26, .inl (cA, 1144, .inl rf_Z))] H := hP
  have hD : va_D A [(h0, .inr (7, [.ref q8, .ref q17, .ref q26, .int 0, .null, .int 0, .null, .null, .int 0, .int 0, .int 0, .null, .null, .null])), (q8, .inl (cA, 286, .inl rf_Z)), (q17, .inl (cA, 286, .inl rf_Z)), (q26, .inl (cA, 1144, .inl rf_Z))] := hD
  refine lv_aload_n hx hb rfdX7_init_31 rfl (lv_at hl 0 rfl) ?_
  refine lv_sipush (v := (nI 286)) hx hb rfdX7_init_32 (by decide) ?_
  refine rf_newa (N := 286) hx hb (hts _ (List.mem_of_getElem? (i := 4) rfl)) hK hP hD hS hA (by decide) (by decide) (by decide) (Nat.le_of_ble_eq_true rfl) (Nat.le_of_ble_eq_true rfl) rfdX7_init_35 (fun q35 H hP hD hS => ?_)
  have hP : va_P D rf_cl [(h0, .inr (7, [.ref q8, .ref q17, .ref q26, .int 0, .null, .int 0, .null, .null, .int 0, .int 0, .int 0, .null, .null, .null])), (q8, .inl (cA, 286, .inl rf_Z)), (q17, .inl (cA, 286, .inl rf_Z)), (q26, .inl (cA, 1144, .inl rf_Z)), (q35, .inl (cA, 286, .inl rf_Z))] H := hP
  have hD : va_D A [(h0, .inr (7, [.ref q8, .ref q17, .ref q26, .int 0, .null, .int 0, .null, .null, .int 0, .int 0, .int 0, .null, .null, .null])), (q8, .inl (cA, 286, .inl rf_Z)), (q17, .inl (cA, 286, .inl rf_Z)), (q26, .inl (cA, 1144, .inl rf_Z)), (q35, .inl (cA, 286, .inl rf_Z))] := hD
  refine W.widen (k := 4) (n := 2002) (Nat.le_of_ble_eq_true rfl) (Nat.le_of_ble_eq_true rfl) ?_
  refine va_putF (D := D) (ci := 7) (v := .ref q35) (ty := .array .int) (C := rfRX7) (T := rfTX7) (N := 14) hx hb hts rf_in_X7_init_X7 rftyX7 rftyX7_ok rfnmX7 hown hK hP hD hS 0 rfl rfl 4 (by decide) (hts _ (List.mem_of_getElem? (i := 8) rfl)) (fun _ h9 => h9) rfl hin rfl (by decide +kernel) rfl rfl (Nat.le_of_ble_eq_true rfl) rfdX7_init_37 (fun H locs hP hD hS => ?_)
  have hP : va_P D rf_cl [(h0, .inr (7, [.ref q8, .ref q17, .ref q26, .int 0, .ref q35, .int 0, .null, .null, .int 0, .int 0, .int 0, .null, .null, .null])), (q8, .inl (cA, 286, .inl rf_Z)), (q17, .inl (cA, 286, .inl rf_Z)), (q26, .inl (cA, 1144, .inl rf_Z)), (q35, .inl (cA, 286, .inl rf_Z))] H := hP
  have hD : va_D A [(h0, .inr (7, [.ref q8, .ref q17, .ref q26, .int 0, .ref q35, .int 0, .null, .null, .int 0, .int 0, .int 0, .null, .null, .null])), (q8, .inl (cA, 286, .inl rf_Z)), (q17, .inl (cA, 286, .inl rf_Z)), (q26, .inl (cA, 1144, .inl rf_Z)), (q35, .inl (cA, 286, .inl rf_Z))] := hD
  refine lv_aload_n hx hb rfdX7_init_40 rfl (lv_at hl 0 rfl) ?_
  refine lv_bipush (v := (nI 32)) hx hb rfdX7_init_41 (by decide) ?_
  refine rf_newa (N := 32) hx hb (hts _ (List.mem_of_getElem? (i := 4) rfl)) hK hP hD hS hA (by decide) (by decide) (by decide) (Nat.le_of_ble_eq_true rfl) (Nat.le_of_ble_eq_true rfl) rfdX7_init_43 (fun q43 H hP hD hS => ?_)
  have hP : va_P D rf_cl [(h0, .inr (7, [.ref q8, .ref q17, .ref q26, .int 0, .ref q35, .int 0, .null, .null, .int 0, .int 0, .int 0, .null, .null, .null])), (q8, .inl (cA, 286, .inl rf_Z)), (q17, .inl (cA, 286, .inl rf_Z)), (q26, .inl (cA, 1144, .inl rf_Z)), (q35, .inl (cA, 286, .inl rf_Z)), (q43, .inl (cA, 32, .inl rf_Z))] H := hP
  have hD : va_D A [(h0, .inr (7, [.ref q8, .ref q17, .ref q26, .int 0, .ref q35, .int 0, .null, .null, .int 0, .int 0, .int 0, .null, .null, .null])), (q8, .inl (cA, 286, .inl rf_Z)), (q17, .inl (cA, 286, .inl rf_Z)), (q26, .inl (cA, 1144, .inl rf_Z)), (q35, .inl (cA, 286, .inl rf_Z)), (q43, .inl (cA, 32, .inl rf_Z))] := hD
  refine W.widen (k := 5) (n := 2034) (Nat.le_of_ble_eq_true rfl) (Nat.le_of_ble_eq_true rfl) ?_
  refine va_putF (D := D) (ci := 7) (v := .ref q43) (ty := .array .int) (C := rfRX7) (T := rfTX7) (N := 14) hx hb hts rf_in_X7_init_X7 rftyX7 rftyX7_ok rfnmX7 hown hK hP hD hS 0 rfl rfl 6 (by decide) (hts _ (List.mem_of_getElem? (i := 9) rfl)) (fun _ h9 => h9) rfl hin rfl (by decide +kernel) rfl rfl (Nat.le_of_ble_eq_true rfl) rfdX7_init_45 (fun H locs hP hD hS => ?_)
  have hP : va_P D rf_cl [(h0, .inr (7, [.ref q8, .ref q17, .ref q26, .int 0, .ref q35, .int 0, .ref q43, .null, .int 0, .int 0, .int 0, .null, .null, .null])), (q8, .inl (cA, 286, .inl rf_Z)), (q17, .inl (cA, 286, .inl rf_Z)), (q26, .inl (cA, 1144, .inl rf_Z)), (q35, .inl (cA, 286, .inl rf_Z)), (q43, .inl (cA, 32, .inl rf_Z))] H := hP
  have hD : va_D A [(h0, .inr (7, [.ref q8, .ref q17, .ref q26, .int 0, .ref q35, .int 0, .ref q43, .null, .int 0, .int 0, .int 0, .null, .null, .null])), (q8, .inl (cA, 286, .inl rf_Z)), (q17, .inl (cA, 286, .inl rf_Z)), (q26, .inl (cA, 1144, .inl rf_Z)), (q35, .inl (cA, 286, .inl rf_Z)), (q43, .inl (cA, 32, .inl rf_Z))] := hD
  refine lv_aload_n hx hb rfdX7_init_48 rfl (lv_at hl 0 rfl) ?_
  refine lv_bipush (v := (nI 80)) hx hb rfdX7_init_49 (by decide) ?_
  refine rf_newa (N := 80) hx hb (hts _ (List.mem_of_getElem? (i := 4) rfl)) hK hP hD hS hA (by decide) (by decide) (by decide) (Nat.le_of_ble_eq_true rfl) (Nat.le_of_ble_eq_true rfl) rfdX7_init_51 (fun q51 H hP hD hS => ?_)
  have hP : va_P D rf_cl [(h0, .inr (7, [.ref q8, .ref q17, .ref q26, .int 0, .ref q35, .int 0, .ref q43, .null, .int 0, .int 0, .int 0, .null, .null, .null])), (q8, .inl (cA, 286, .inl rf_Z)), (q17, .inl (cA, 286, .inl rf_Z)), (q26, .inl (cA, 1144, .inl rf_Z)), (q35, .inl (cA, 286, .inl rf_Z)), (q43, .inl (cA, 32, .inl rf_Z)), (q51, .inl (cA, 80, .inl rf_Z))] H := hP
  have hD : va_D A [(h0, .inr (7, [.ref q8, .ref q17, .ref q26, .int 0, .ref q35, .int 0, .ref q43, .null, .int 0, .int 0, .int 0, .null, .null, .null])), (q8, .inl (cA, 286, .inl rf_Z)), (q17, .inl (cA, 286, .inl rf_Z)), (q26, .inl (cA, 1144, .inl rf_Z)), (q35, .inl (cA, 286, .inl rf_Z)), (q43, .inl (cA, 32, .inl rf_Z)), (q51, .inl (cA, 80, .inl rf_Z))] := hD
  refine W.widen (k := 6) (n := 2114) (Nat.le_of_ble_eq_true rfl) (Nat.le_of_ble_eq_true rfl) ?_
  refine va_putF (D := D) (ci := 7) (v := .ref q51) (ty := .array .int) (C := rfRX7) (T := rfTX7) (N := 14) hx hb hts rf_in_X7_init_X7 rftyX7 rftyX7_ok rfnmX7 hown hK hP hD hS 0 rfl rfl 7 (by decide) (hts _ (List.mem_of_getElem? (i := 10) rfl)) (fun _ h9 => h9) rfl hin rfl (by decide +kernel) rfl rfl (Nat.le_of_ble_eq_true rfl) rfdX7_init_53 (fun H locs hP hD hS => ?_)
  have hP : va_P D rf_cl [(h0, .inr (7, [.ref q8, .ref q17, .ref q26, .int 0, .ref q35, .int 0, .ref q43, .ref q51, .int 0, .int 0, .int 0, .null, .null, .null])), (q8, .inl (cA, 286, .inl rf_Z)), (q17, .inl (cA, 286, .inl rf_Z)), (q26, .inl (cA, 1144, .inl rf_Z)), (q35, .inl (cA, 286, .inl rf_Z)), (q43, .inl (cA, 32, .inl rf_Z)), (q51, .inl (cA, 80, .inl rf_Z))] H := hP
  have hD : va_D A [(h0, .inr (7, [.ref q8, .ref q17, .ref q26, .int 0, .ref q35, .int 0, .ref q43, .ref q51, .int 0, .int 0, .int 0, .null, .null, .null])), (q8, .inl (cA, 286, .inl rf_Z)), (q17, .inl (cA, 286, .inl rf_Z)), (q26, .inl (cA, 1144, .inl rf_Z)), (q35, .inl (cA, 286, .inl rf_Z)), (q43, .inl (cA, 32, .inl rf_Z)), (q51, .inl (cA, 80, .inl rf_Z))] := hD
  refine lv_aload_n hx hb rfdX7_init_56 rfl (lv_at hl 0 rfl) ?_
  refine lv_bipush (v := (nI 20)) hx hb rfdX7_init_57 (by decide) ?_
  refine rf_newa (N := 20) hx hb (hts _ (List.mem_of_getElem? (i := 4) rfl)) hK hP hD hS hA (by decide) (by decide) (by decide) (Nat.le_of_ble_eq_true rfl) (Nat.le_of_ble_eq_true rfl) rfdX7_init_59 (fun q59 H hP hD hS => ?_)
  have hP : va_P D rf_cl [(h0, .inr (7, [.ref q8, .ref q17, .ref q26, .int 0, .ref q35, .int 0, .ref q43, .ref q51, .int 0, .int 0, .int 0, .null, .null, .null])), (q8, .inl (cA, 286, .inl rf_Z)), (q17, .inl (cA, 286, .inl rf_Z)), (q26, .inl (cA, 1144, .inl rf_Z)), (q35, .inl (cA, 286, .inl rf_Z)), (q43, .inl (cA, 32, .inl rf_Z)), (q51, .inl (cA, 80, .inl rf_Z)), (q59, .inl (cA, 20, .inl rf_Z))] H := hP
  have hD : va_D A [(h0, .inr (7, [.ref q8, .ref q17, .ref q26, .int 0, .ref q35, .int 0, .ref q43, .ref q51, .int 0, .int 0, .int 0, .null, .null, .null])), (q8, .inl (cA, 286, .inl rf_Z)), (q17, .inl (cA, 286, .inl rf_Z)), (q26, .inl (cA, 1144, .inl rf_Z)), (q35, .inl (cA, 286, .inl rf_Z)), (q43, .inl (cA, 32, .inl rf_Z)), (q51, .inl (cA, 80, .inl rf_Z)), (q59, .inl (cA, 20, .inl rf_Z))] := hD
  refine W.widen (k := 7) (n := 2134) (Nat.le_of_ble_eq_true rfl) (Nat.le_of_ble_eq_true rfl) ?_
  refine va_putF (D := D) (ci := 7) (v := .ref q59) (ty := .array .int) (C := rfRX7) (T := rfTX7) (N := 14) hx hb hts rf_in_X7_init_X7 rftyX7 rftyX7_ok rfnmX7 hown hK hP hD hS 0 rfl rfl 11 (by decide) (hts _ (List.mem_of_getElem? (i := 11) rfl)) (fun _ h9 => h9) rfl hin rfl (by decide +kernel) rfl rfl (Nat.le_of_ble_eq_true rfl) rfdX7_init_61 (fun H locs hP hD hS => ?_)
  have hP : va_P D rf_cl [(h0, .inr (7, [.ref q8, .ref q17, .ref q26, .int 0, .ref q35, .int 0, .ref q43, .ref q51, .int 0, .int 0, .int 0, .ref q59, .null, .null])), (q8, .inl (cA, 286, .inl rf_Z)), (q17, .inl (cA, 286, .inl rf_Z)), (q26, .inl (cA, 1144, .inl rf_Z)), (q35, .inl (cA, 286, .inl rf_Z)), (q43, .inl (cA, 32, .inl rf_Z)), (q51, .inl (cA, 80, .inl rf_Z)), (q59, .inl (cA, 20, .inl rf_Z))] H := hP
  have hD : va_D A [(h0, .inr (7, [.ref q8, .ref q17, .ref q26, .int 0, .ref q35, .int 0, .ref q43, .ref q51, .int 0, .int 0, .int 0, .ref q59, .null, .null])), (q8, .inl (cA, 286, .inl rf_Z)), (q17, .inl (cA, 286, .inl rf_Z)), (q26, .inl (cA, 1144, .inl rf_Z)), (q35, .inl (cA, 286, .inl rf_Z)), (q43, .inl (cA, 32, .inl rf_Z)), (q51, .inl (cA, 80, .inl rf_Z)), (q59, .inl (cA, 20, .inl rf_Z))] := hD
  refine lv_aload_n hx hb rfdX7_init_64 rfl (lv_at hl 0 rfl) ?_
  refine lv_bipush (v := (nI 20)) hx hb rfdX7_init_65 (by decide) ?_
  refine rf_newa (N := 20) hx hb (hts _ (List.mem_of_getElem? (i := 4) rfl)) hK hP hD hS hA (by decide) (by decide) (by decide) (Nat.le_of_ble_eq_true rfl) (Nat.le_of_ble_eq_true rfl) rfdX7_init_67 (fun q67 H hP hD hS => ?_)
  have hP : va_P D rf_cl [(h0, .inr (7, [.ref q8, .ref q17, .ref q26, .int 0, .ref q35, .int 0, .ref q43, .ref q51, .int 0, .int 0, .int 0, .ref q59, .null, .null])), (q8, .inl (cA, 286, .inl rf_Z)), (q17, .inl (cA, 286, .inl rf_Z)), (q26, .inl (cA, 1144, .inl rf_Z)), (q35, .inl (cA, 286, .inl rf_Z)), (q43, .inl (cA, 32, .inl rf_Z)), (q51, .inl (cA, 80, .inl rf_Z)), (q59, .inl (cA, 20, .inl rf_Z)), (q67, .inl (cA, 20, .inl rf_Z))] H := hP
  have hD : va_D A [(h0, .inr (7, [.ref q8, .ref q17, .ref q26, .int 0, .ref q35, .int 0, .ref q43, .ref q51, .int 0, .int 0, .int 0, .ref q59, .null, .null])), (q8, .inl (cA, 286, .inl rf_Z)), (q17, .inl (cA, 286, .inl rf_Z)), (q26, .inl (cA, 1144, .inl rf_Z)), (q35, .inl (cA, 286, .inl rf_Z)), (q43, .inl (cA, 32, .inl rf_Z)), (q51, .inl (cA, 80, .inl rf_Z)), (q59, .inl (cA, 20, .inl rf_Z)), (q67, .inl (cA, 20, .inl rf_Z))] := hD
  refine W.widen (k := 8) (n := 2154) (Nat.le_of_ble_eq_true rfl) (Nat.le_of_ble_eq_true rfl) ?_
  refine va_putF (D := D) (ci := 7) (v := .ref q67) (ty := .array .int) (C := rfRX7) (T := rfTX7) (N := 14) hx hb hts rf_in_X7_init_X7 rftyX7 rftyX7_ok rfnmX7 hown hK hP hD hS 0 rfl rfl 12 (by decide) (hts _ (List.mem_of_getElem? (i := 12) rfl)) (fun _ h9 => h9) rfl hin rfl (by decide +kernel) rfl rfl (Nat.le_of_ble_eq_true rfl) rfdX7_init_69 (fun H locs hP hD hS => ?_)
  have hP : va_P D rf_cl [(h0, .inr (7, [.ref q8, .ref q17, .ref q26, .int 0, .ref q35, .int 0, .ref q43, .ref q51, .int 0, .int 0, .int 0, .ref q59, .ref q67, .null])), (q8, .inl (cA, 286, .inl rf_Z)), (q17, .inl (cA, 286, .inl rf_Z)), (q26, .inl (cA, 1144, .inl rf_Z)), (q35, .inl (cA, 286, .inl rf_Z)), (q43, .inl (cA, 32, .inl rf_Z)), (q51, .inl (cA, 80, .inl rf_Z)), (q59, .inl (cA, 20, .inl rf_Z)), (q67, .inl (cA, 20, .inl rf_Z))] H := hP
  have hD : va_D A [(h0, .inr (7, [.ref q8, .ref q17, .ref q26, .int 0, .ref q35, .int 0, .ref q43, .ref q51, .int 0, .int 0, .int 0, .ref q59, .ref q67, .null])), (q8, .inl (cA, 286, .inl rf_Z)), (q17, .inl (cA, 286, .inl rf_Z)), (q26, .inl (cA, 1144, .inl rf_Z)), (q35, .inl (cA, 286, .inl rf_Z)), (q43, .inl (cA, 32, .inl rf_Z)), (q51, .inl (cA, 80, .inl rf_Z)), (q59, .inl (cA, 20, .inl rf_Z)), (q67, .inl (cA, 20, .inl rf_Z))] := hD
  refine lv_aload_n hx hb rfdX7_init_72 rfl (lv_at hl 0 rfl) ?_
  refine lv_bipush (v := (nI 20)) hx hb rfdX7_init_73 (by decide) ?_
  refine rf_newa (N := 20) hx hb (hts _ (List.mem_of_getElem? (i := 4) rfl)) hK hP hD hS hA (by decide) (by decide) (by decide) (Nat.le_of_ble_eq_true rfl) (Nat.le_of_ble_eq_true rfl) rfdX7_init_75 (fun q75 H hP hD hS => ?_)
  have hP : va_P D rf_cl [(h0, .inr (7, [.ref q8, .ref q17, .ref q26, .int 0, .ref q35, .int 0, .ref q43, .ref q51, .int 0, .int 0, .int 0, .ref q59, .ref q67, .null])), (q8, .inl (cA, 286, .inl rf_Z)), (q17, .inl (cA, 286, .inl rf_Z)), (q26, .inl (cA, 1144, .inl rf_Z)), (q35, .inl (cA, 286, .inl rf_Z)), (q43, .inl (cA, 32, .inl rf_Z)), (q51, .inl (cA, 80, .inl rf_Z)), (q59, .inl (cA, 20, .inl rf_Z)), (q67, .inl (cA, 20, .inl rf_Z)), (q75, .inl (cA, 20, .inl rf_Z))] H := hP
  have hD : va_D A [(h0, .inr (7, [.ref q8, .ref q17, .ref q26, .int 0, .ref q35, .int 0, .ref q43, .ref q51, .int 0, .int 0, .int 0, .ref q59, .ref q67, .null])), (q8, .inl (cA, 286, .inl rf_Z)), (q17, .inl (cA, 286, .inl rf_Z)), (q26, .inl (cA, 1144, .inl rf_Z)), (q35, .inl (cA, 286, .inl rf_Z)), (q43, .inl (cA, 32, .inl rf_Z)), (q51, .inl (cA, 80, .inl rf_Z)), (q59, .inl (cA, 20, .inl rf_Z)), (q67, .inl (cA, 20, .inl rf_Z)), (q75, .inl (cA, 20, .inl rf_Z))] := hD
  refine W.widen (k := 9) (n := 2174) (Nat.le_of_ble_eq_true rfl) (Nat.le_of_ble_eq_true rfl) ?_
  refine va_putF (D := D) (ci := 7) (v := .ref q75) (ty := .array .int) (C := rfRX7) (T := rfTX7) (N := 14) hx hb hts rf_in_X7_init_X7 rftyX7 rftyX7_ok rfnmX7 hown hK hP hD hS 0 rfl rfl 13 (by decide) (hts _ (List.mem_of_getElem? (i := 13) rfl)) (fun _ h9 => h9) rfl hin rfl (by decide +kernel) rfl rfl (Nat.le_of_ble_eq_true rfl) rfdX7_init_77 (fun H locs hP hD hS => ?_)
  have hP : va_P D rf_cl [(h0, .inr (7, [.ref q8, .ref q17, .ref q26, .int 0, .ref q35, .int 0, .ref q43, .ref q51, .int 0, .int 0, .int 0, .ref q59, .ref q67, .ref q75])), (q8, .inl (cA, 286, .inl rf_Z)), (q17, .inl (cA, 286, .inl rf_Z)), (q26, .inl (cA, 1144, .inl rf_Z)), (q35, .inl (cA, 286, .inl rf_Z)), (q43, .inl (cA, 32, .inl rf_Z)), (q51, .inl (cA, 80, .inl rf_Z)), (q59, .inl (cA, 20, .inl rf_Z)), (q67, .inl (cA, 20, .inl rf_Z)), (q75, .inl (cA, 20, .inl rf_Z))] H := hP
  have hD : va_D A [(h0, .inr (7, [.ref q8, .ref q17, .ref q26, .int 0, .ref q35, .int 0, .ref q43, .ref q51, .int 0, .int 0, .int 0, .ref q59, .ref q67, .ref q75])), (q8, .inl (cA, 286, .inl rf_Z)), (q17, .inl (cA, 286, .inl rf_Z)), (q26, .inl (cA, 1144, .inl rf_Z)), (q35, .inl (cA, 286, .inl rf_Z)), (q43, .inl (cA, 32, .inl rf_Z)), (q51, .inl (cA, 80, .inl rf_Z)), (q59, .inl (cA, 20, .inl rf_Z)), (q67, .inl (cA, 20, .inl rf_Z)), (q75, .inl (cA, 20, .inl rf_Z))] := hD
  refine lv_aload_n hx hb rfdX7_init_80 rfl (lv_at hl 0 rfl) ?_
  refine va_get (D := D) (ci := 7) (v := .ref q8) (C := rfRX7) (T := rfTX7) (N := 14) hx hb hts rf_in_X7_init_X7 hown hK hP 0 rfl rfl 0 (by decide) (hts _ (List.mem_of_getElem? (i := 5) rfl)) (fun _ h9 => h9) rfl rfdX7_init_81 ?_
  refine lv_iconst (v := 1) hx hb rfdX7_init_84 (by decide) ?_
  refine lv_iconst (v := 3) hx hb rfdX7_init_85 (by decide) ?_
  refine va_iast hx hb hK hP hD hS 1 0 rfl rfl (by unfold vp_in; decide) rfdX7_init_86 (fun H locs hP hD hS => ?_)
  generalize hg86 : upd rf_Z (Int32.toNatClampNeg 1) 3 = g86 at hP hD
  have hP : va_P D rf_cl [(h0, .inr (7, [.ref q8, .ref q17, .ref q26, .int 0, .ref q35, .int 0, .ref q43, .ref q51, .int 0, .int 0, .int 0, .ref q59, .ref q67, .ref q75])), (q8, .inl (cA, 286, .inl g86)), (q17, .inl (cA, 286, .inl rf_Z)), (q26, .inl (cA, 1144, .inl rf_Z)), (q35, .inl (cA, 286, .inl rf_Z)), (q43, .inl (cA, 32, .inl rf_Z)), (q51, .inl (cA, 80, .inl rf_Z)), (q59, .inl (cA, 20, .inl rf_Z)), (q67, .inl (cA, 20, .inl rf_Z)), (q75, .inl (cA, 20, .inl rf_Z))] H := hP
  have hD : va_D A [(h0, .inr (7, [.ref q8, .ref q17, .ref q26, .int 0, .ref q35, .int 0, .ref q43, .ref q51, .int 0, .int 0, .int 0, .ref q59, .ref q67, .ref q75])), (q8, .inl (cA, 286, .inl g86)), (q17, .inl (cA, 286, .inl rf_Z)), (q26, .inl (cA, 1144, .inl rf_Z)), (q35, .inl (cA, 286, .inl rf_Z)), (q43, .inl (cA, 32, .inl rf_Z)), (q51, .inl (cA, 80, .inl rf_Z)), (q59, .inl (cA, 20, .inl rf_Z)), (q67, .inl (cA, 20, .inl rf_Z)), (q75, .inl (cA, 20, .inl rf_Z))] := hD
  refine lv_iconst (v := 0) hx hb rfdX7_init_87 (by decide) ?_
  refine lv_istore_n (lv' := [(1, .int 0), (0, .ref h0)]) hx hb rfdX7_init_88 rfl hl (by decide) rfl (fun ls hl => ?_)
  have LP : ∀ (n_ k_ : Nat), k_ + n_ = 10 → ∀ (f_ : Nat → Int32) (H : Heap) (locs : List Loc) (ls : Array Slot), va_P D rf_cl [(h0, .inr (7, [.ref q8, .ref q17, .ref q26, .int 0, .ref q35, .int 0, .ref q43, .ref q51, .int 0, .int 0, .int 0, .ref q59, .ref q67, .ref q75])), (q8, .inl (cA, 286, .inl f_)), (q17, .inl (cA, 286, .inl rf_Z)), (q26, .inl (cA, 1144, .inl rf_Z)), (q35, .inl (cA, 286, .inl rf_Z)), (q43, .inl (cA, 32, .inl rf_Z)), (q51, .inl (cA, 80, .inl rf_Z)), (q59, .inl (cA, 20, .inl rf_Z)), (q67, .inl (cA, 20, .inl rf_Z)), (q75, .inl (cA, 20, .inl rf_Z))] H → va_D A [(h0, .inr (7, [.ref q8, .ref q17, .ref q26, .int 0, .ref q35, .int 0, .ref q43, .ref q51, .int 0, .int 0, .int 0, .ref q59, .ref q67, .ref q75])), (q8, .inl (cA, 286, .inl f_)), (q17, .inl (cA, 286, .inl rf_Z)), (q26, .inl (cA, 1144, .inl rf_Z)), (q35, .inl (cA, 286, .inl rf_Z)), (q43, .inl (cA, 32, .inl rf_Z)), (q51, .inl (cA, 80, .inl rf_Z)), (q59, .inl (cA, 20, .inl rf_Z)), (q67, .inl (cA, 20, .inl rf_Z)), (q75, .inl (cA, 20, .inl rf_Z))] → va_S A s.heap H locs → lv_has ls 2 [(1, .int (nI k_)), (0, .ref h0)] → W p l e { frames := 1, cells := 9, slots := 2174, locals := 20 } s m args below meth c H locs 9 2174 Q (F0 m 89 ls []) := by
    intro n_
    induction n_ with
    | zero =>
      intro k_ hk_ f_ H locs ls hP hD hS hl
      refine lv_iload_n hx hb rfdX7_init_89 rfl (lv_at hl 0 rfl) ?_
      refine lv_bipush (v := (nI 10)) hx hb rfdX7_init_90 (by decide) ?_
      refine lv_icmp_ge (tgt := 133) hx hb rfdX7_init_92 (by decide) (fun h3 => ?_) (fun h3 => absurd (nI_le (by omega) (by omega)) h3)
      exact RET _ _ _ _ q26 rfdX7_init_133 (hP.sub [3] rfl) (hD.sub [3] (by decide) rfl) hS
    | succ n_ ih_ =>
      intro k_ hk_ f_ H locs ls hP hD hS hl
      refine lv_iload_n hx hb rfdX7_init_89 rfl (lv_at hl 0 rfl) ?_
      refine lv_bipush (v := (nI 10)) hx hb rfdX7_init_90 (by decide) ?_
      refine lv_icmp_ge (tgt := 133) hx hb rfdX7_init_92 (by decide) (fun h3 => absurd h3 (nI_ge (by omega) (by omega))) (fun h3 => ?_)
      refine lv_aload_n hx hb rfdX7_init_95 rfl (lv_at hl 1 rfl) ?_
      refine va_get (D := D) (ci := 7) (v := .ref q8) (C := rfRX7) (T := rfTX7) (N := 14) hx hb hts rf_in_X7_init_X7 hown hK hP 0 rfl rfl 0 (by decide) (hts _ (List.mem_of_getElem? (i := 5) rfl)) (fun _ h9 => h9) rfl rfdX7_init_96 ?_
      refine lv_iconst (v := 2) hx hb rfdX7_init_99 (by decide) ?_
      refine lv_iconst (v := 2) hx hb rfdX7_init_100 (by decide) ?_
      refine lv_iload_n hx hb rfdX7_init_101 rfl (lv_at hl 0 rfl) ?_
      refine lv_imul hx hb rfdX7_init_102 ?_
      refine lv_iadd hx hb rfdX7_init_103 ?_
      refine lv_iload_n hx hb rfdX7_init_104 rfl (lv_at hl 0 rfl) ?_
      refine lv_bipush (v := 6) hx hb rfdX7_init_105 (by decide) ?_
      refine lv_irem hx hb rfdX7_init_107 (by decide) ?_
      refine lv_topi (fun x107_ ex107_ => ?_)
      refine va_iast hx hb hK hP hD hS 1 0 rfl rfl (rf_x1 k_ (by omega)) rfdX7_init_108 (fun H locs hP hD hS => ?_)
      generalize hg108 : upd f_ (Int32.toNatClampNeg (2 + (2 * (nI k_)))) x107_ = g108 at hP hD
      have hP : va_P D rf_cl [(h0, .inr (7, [.ref q8, .ref q17, .ref q26, .int 0, .ref q35, .int 0, .ref q43, .ref q51, .int 0, .int 0, .int 0, .ref q59, .ref q67, .ref q75])), (q8, .inl (cA, 286, .inl g108)), (q17, .inl (cA, 286, .inl rf_Z)), (q26, .inl (cA, 1144, .inl rf_Z)), (q35, .inl (cA, 286, .inl rf_Z)), (q43, .inl (cA, 32, .inl rf_Z)), (q51, .inl (cA, 80, .inl rf_Z)), (q59, .inl (cA, 20, .inl rf_Z)), (q67, .inl (cA, 20, .inl rf_Z)), (q75, .inl (cA, 20, .inl rf_Z))] H := hP
      have hD : va_D A [(h0, .inr (7, [.ref q8, .ref q17, .ref q26, .int 0, .ref q35, .int 0, .ref q43, .ref q51, .int 0, .int 0, .int 0, .ref q59, .ref q67, .ref q75])), (q8, .inl (cA, 286, .inl g108)), (q17, .inl (cA, 286, .inl rf_Z)), (q26, .inl (cA, 1144, .inl rf_Z)), (q35, .inl (cA, 286, .inl rf_Z)), (q43, .inl (cA, 32, .inl rf_Z)), (q51, .inl (cA, 80, .inl rf_Z)), (q59, .inl (cA, 20, .inl rf_Z)), (q67, .inl (cA, 20, .inl rf_Z)), (q75, .inl (cA, 20, .inl rf_Z))] := hD
      refine lv_aload_n hx hb rfdX7_init_109 rfl (lv_at hl 1 rfl) ?_
      refine va_get (D := D) (ci := 7) (v := .ref q8) (C := rfRX7) (T := rfTX7) (N := 14) hx hb hts rf_in_X7_init_X7 hown hK hP 0 rfl rfl 0 (by decide) (hts _ (List.mem_of_getElem? (i := 5) rfl)) (fun _ h9 => h9) rfl rfdX7_init_110 ?_
      refine lv_iconst (v := 2) hx hb rfdX7_init_113 (by decide) ?_
      refine lv_iconst (v := 2) hx hb rfdX7_init_114 (by decide) ?_
      refine lv_iload_n hx hb rfdX7_init_115 rfl (lv_at hl 0 rfl) ?_
      refine lv_imul hx hb rfdX7_init_116 ?_
      refine lv_iadd hx hb rfdX7_init_117 ?_
      refine lv_iconst (v := 1) hx hb rfdX7_init_118 (by decide) ?_
      refine lv_iadd hx hb rfdX7_init_119 ?_
      refine lv_iload_n hx hb rfdX7_init_120 rfl (lv_at hl 0 rfl) ?_
      refine lv_iconst (v := 1) hx hb rfdX7_init_121 (by decide) ?_
      refine lv_iadd hx hb rfdX7_init_122 ?_
      refine lv_bipush (v := 6) hx hb rfdX7_init_123 (by decide) ?_
      refine lv_irem hx hb rfdX7_init_125 (by decide) ?_
      refine lv_topi (fun x125_ ex125_ => ?_)
      refine va_iast hx hb hK hP hD hS 1 0 rfl rfl (rf_x2 k_ (by omega)) rfdX7_init_126 (fun H locs hP hD hS => ?_)
      generalize hg126 : upd g108 (Int32.toNatClampNeg ((2 + (2 * (nI k_))) + 1)) x125_ = g126 at hP hD
      have hP : va_P D rf_cl [(h0, .inr (7, [.ref q8, .ref q17, .ref q26, .int 0, .ref q35, .int 0, .ref q43, .ref q51, .int 0, .int 0, .int 0, .ref q59, .ref q67, .ref q75])), (q8, .inl (cA, 286, .inl g126)), (q17, .inl (cA, 286, .inl rf_Z)), (q26, .inl (cA, 1144, .inl rf_Z)), (q35, .inl (cA, 286, .inl rf_Z)), (q43, .inl (cA, 32, .inl rf_Z)), (q51, .inl (cA, 80, .inl rf_Z)), (q59, .inl (cA, 20, .inl rf_Z)), (q67, .inl (cA, 20, .inl rf_Z)), (q75, .inl (cA, 20, .inl rf_Z))] H := hP
      have hD : va_D A [(h0, .inr (7, [.ref q8, .ref q17, .ref q26, .int 0, .ref q35, .int 0, .ref q43, .ref q51, .int 0, .int 0, .int 0, .ref q59, .ref q67, .ref q75])), (q8, .inl (cA, 286, .inl g126)), (q17, .inl (cA, 286, .inl rf_Z)), (q26, .inl (cA, 1144, .inl rf_Z)), (q35, .inl (cA, 286, .inl rf_Z)), (q43, .inl (cA, 32, .inl rf_Z)), (q51, .inl (cA, 80, .inl rf_Z)), (q59, .inl (cA, 20, .inl rf_Z)), (q67, .inl (cA, 20, .inl rf_Z)), (q75, .inl (cA, 20, .inl rf_Z))] := hD
      refine lv_iinc (v := nI (k_ + 1)) (lv' := [(1, .int (nI (k_ + 1))), (0, .ref h0)]) hx hb rfdX7_init_127 hl (k := 0) rfl (nI_succ k_).symm (by decide) rfl (fun ls hl => ?_)
      refine lv_goto (tgt := 89) hx hb rfdX7_init_130 (by decide) ?_
      exact ih_ (k_ + 1) (by omega) g126 H locs ls hP hD hS hl
  exact LP 10 0 rfl g86 H locs ls hP hD hS (lv_sub hl [0, 1] rfl)
end
section
abbrev rf_cl_law : ByteArray := code
theorem rf_dl_0 : decode code 0 = .ok (.new 7, 3) := by decide +kernel
theorem rf_dl_3 : decode code 3 = .ok (.dup, 1) := by decide +kernel
theorem rf_dl_4 : decode code 4 = .ok (.invokespecial 9, 3) := by decide +kernel
theorem rf_dl_7 : decode code 7 = .ok (.astore_n 1, 1) := by decide +kernel
theorem rf_dl_8 : decode code 8 = .ok (.new 10, 3) := by decide +kernel
theorem rf_dl_11 : decode code 11 = .ok (.dup, 1) := by decide +kernel
theorem rf_dl_12 : decode code 12 = .ok (.invokespecial 12, 3) := by decide +kernel
theorem rf_dl_15 : decode code 15 = .ok (.astore_n 2, 1) := by decide +kernel
theorem rf_dl_16 : decode code 16 = .ok (.iconst 0, 1) := by decide +kernel
theorem rf_dl_17 : decode code 17 = .ok (.istore_n 3, 1) := by decide +kernel
theorem rf_dl_18 : decode code 18 = .ok (.iload_n 3, 1) := by decide +kernel
theorem rf_dl_19 : decode code 19 = .ok (.aload_n 0, 1) := by decide +kernel
theorem rf_dl_20 : decode code 20 = .ok (.arraylength, 1) := by decide +kernel
theorem rf_dl_21 : decode code 21 = .ok (.iconst 4, 1) := by decide +kernel
theorem rf_dl_22 : decode code 22 = .ok (.isub, 1) := by decide +kernel
theorem rf_dl_23 : decode code 23 = .ok (.if_icmp .gt 730, 3) := by decide +kernel
theorem rf_dl_753 : decode code 753 = .ok (.iconst 1, 1) := by decide +kernel
theorem rf_dl_754 : decode code 754 = .ok (.ireturn, 1) := by decide +kernel
/-- a room that holds what the run makes: 32 cells of 4103 slots, beside the printed one of 32 and 2215 -/
abbrev rf_room : Room := { frames := 9, cells := 32, slots := 4103, locals := 326 }
theorem rf_size {cA : ClassId} {n : Nat} {f : Nat → Int32} : (vp_cell cA (n, .inl f)).slots.size = n := arrV_size cA n (fun j => .int (f j))
def rf_big (z : Nat) (H : Heap) : Prop := ∃ (a b : Nat) (x y : Cell), a ≠ b ∧ z ≤ a ∧ z ≤ b ∧ H[a]? = some x ∧ H[b]? = some y ∧ x.slots.size = 1144 ∧ y.slots.size = 1144
def rf_Q (_ : Array Value) (s : State) (o : Outcome) (t : State) : Prop := o = .returned (some (.int 1)) ∧ Framed s o t [] 32 4103 ∧ rf_big s.heap.size t.heap
def rf_end (below : List Frame) (a : Array Value) (s : State) : State → Prop := fun t => ∃ o, t.status = .running ∧ Ended t below o ∧ rf_Q a s o t
theorem rf_ret {p : Program} {l : Launch} {e : Env} {s : State} {m : MethodId} {below : List Frame} {meth : Method} {c : Code} {b : Nat} (hx : p.tables.exec = Jvm.exec) (hb : c.code = code) (hr : meth.sig.returnType = ret) (hlocks : meth.locks = false) {pc : Nat} {H : Heap} {ls : Array Slot} (hdg : decode code pc = .ok (.ireturn, 1)) (hH : rf_big s.heap.size H) : W p l e rf_room s m #[Value.ref b] below meth c H [] 32 4103 (rf_end below #[Value.ref b] s) (F0 m pc ls [.int 1]) := by
  intro T hT X
  obtain ⟨fs, hret, hrun, hended, hW, hframe⟩ := X.leave (v := some (.int 1)) (hlocks := hlocks) (fun h => by rw [hr] at h; cases h)
  have hmeth' : T.vm.method? m = some meth := X.method'
  refine ⟨T.setFrames fs, ?_, .returned (some (.int 1)), hrun, hended, rfl, ⟨⟨_, rfl⟩, hW, hframe⟩, ?_⟩
  · jvm_step X.here [X.here.top, hx, hb, hdg, hmeth', hr, ret, narrow_b1]
    (try refine ⟨rfl, ?_⟩); (try refine ⟨rfl, ?_⟩)
    first | (intro acts; rw [hret _ acts rfl rfl rfl]) | rw [hret _ _ rfl rfl rfl]
    exact Steps.refl _
  · have h1 : (T.setFrames fs).heap = T.heap := rfl
    rw [h1, hT]
    exact hH
set_option maxHeartbeats 4000000 in
set_option maxRecDepth 100000 in
theorem rf_start {p : Program} {e : Env} {s : State} {m : MethodId} {below : List Frame} {meth : Method} {c : Code} (l : Launch) {b : Nat} {xs : Nat → Int32} (hx : p.tables.exec = Jvm.exec) (hb : c.code = code) (hr : meth.sig.returnType = ret) (hml : c.maxLocals = 4) (hown : s.vm.findClass "DollGarlandsLaw" = some m.cls) (hts : ∀ w ∈ tables_1, w.before #[Value.ref b] s = true) (hX : va_X b 0 xs s s.heap) (hbl : b < s.heap.size) (hlocks : meth.locks = false) : W p l e rf_room s m #[Value.ref b] below meth c s.heap [] 0 0 (rf_end below #[Value.ref b] s) (entryFrame m ([Value.ref b] : List Value).toArray 4) := by
  have hA : ∀ q : Nat, s.heap.size ≤ q → (fun q : Nat => s.heap.size ≤ q) q := fun _ h => h
  have hbA : ¬ (fun q : Nat => s.heap.size ≤ q) b := Nat.not_le.mpr hbl
  obtain ⟨c0, iS0, hKn0⟩ := u_known (C := rfRX0) (T := rfTX0) (N := 4) (n := 4) hts rf_in_law_X0 (hts _ (List.mem_of_getElem? (i := 55) (by decide +kernel)))
  obtain ⟨c1, iS1, hKn1⟩ := u_known (C := rfRX1) (T := rfTX1) (N := 3) (n := 3) hts rf_in_law_X1 (hts _ (List.mem_of_getElem? (i := 76) (by decide +kernel)))
  obtain ⟨c2, iS2, hKn2⟩ := u_known (C := rfRX2) (T := rfTX2) (N := 1) (n := 1) hts rf_in_law_X2 (hts _ (List.mem_of_getElem? (i := 45) (by decide +kernel)))
  obtain ⟨c3, iS3, hKn3⟩ := u_known (C := rfRX3) (T := rfTX3) (N := 1) (n := 1) hts rf_in_law_X3 (hts _ (List.mem_of_getElem? (i := 26) (by decide +kernel)))
  obtain ⟨c4, iS4, hKn4⟩ := u_known (C := rfRX4) (T := rfTX4) (N := 1) (n := 1) hts rf_in_law_X4 (hts _ (List.mem_of_getElem? (i := 20) (by decide +kernel)))
  obtain ⟨c5, iS5, hKn5⟩ := u_known (C := rfRX5) (T := rfTX5) (N := 2) (n := 2) hts rf_in_law_X5 (hts _ (List.mem_of_getElem? (i := 94) (by decide +kernel)))
  obtain ⟨c6, iS6, hKn6⟩ := u_known (C := rfRX6) (T := rfTX6) (N := 8) (n := 8) hts rf_in_law_X6 (hts _ (List.mem_of_getElem? (i := 12) (by decide +kernel)))
  obtain ⟨c7, iS7, hKn7⟩ := u_known (C := rfRX7) (T := rfTX7) (N := 14) (n := 14) hts rf_in_law_X7 (hts _ (List.mem_of_getElem? (i := 560) (by decide +kernel)))
  obtain ⟨dC, dI, hKc⟩ : ∃ (dC : Nat → ClassId) (dI : Nat → Nat → Nat), ∀ (k : Nat) (q : vw_C), rf_cl[k]? = some q → u_Kn s q.1 q.2.1 q.2.2 (dC k) (dI k) := by
    refine ⟨fun k => if k = 0 then c0 else if k = 1 then c1 else if k = 2 then c2 else if k = 3 then c3 else if k = 4 then c4 else if k = 5 then c5 else if k = 6 then c6 else c7, fun k => if k = 0 then iS0 else if k = 1 then iS1 else if k = 2 then iS2 else if k = 3 then iS3 else if k = 4 then iS4 else if k = 5 then iS5 else if k = 6 then iS6 else iS7, ?_⟩
    intro k q hq
    match k, hq with
    | 0, hq => cases hq; exact hKn0
    | 1, hq => cases hq; exact hKn1
    | 2, hq => cases hq; exact hKn2
    | 3, hq => cases hq; exact hKn3
    | 4, hq => cases hq; exact hKn4
    | 5, hq => cases hq; exact hKn5
    | 6, hq => cases hq; exact hKn6
    | 7, hq => cases hq; exact hKn7
    | k + 8, hq => simp [rf_cl] at hq
  obtain ⟨cA, kA, comp, g1, g2, g3⟩ := Cond.arrayClass_spec (hts (.arrayClass .int) (List.mem_of_getElem? (i := 35) (by decide +kernel)))
  obtain ⟨D, hDe⟩ : ∃ D : va_G, D = (dC, dI) := ⟨_, rfl⟩
  have hK : va_K D rf_cl [(cA, .int)] s := by
    rw [hDe]
    refine ⟨hKc, fun k q h => ?_⟩
    match k, h with
    | 0, h => cases h; exact ⟨fun n z => ⟨fun k h => (by cases h), kA, g2, comp, g3⟩, g1⟩
    | k + 1, h => simp at h
  have hS : va_S (fun q : Nat => s.heap.size ≤ q) s.heap s.heap [] := va_S.rf
  have hP : va_P D rf_cl [] s.heap := fun k q h => by simp at h
  have hD : va_D (fun q : Nat => s.heap.size ≤ q) [] := ⟨fun i j p q h => by simp at h, fun k q h => by simp at h⟩
  generalize hAe : (fun q : Nat => s.heap.size ≤ q) = A at hA hbA hS hD
  have hl := lv_entry ([.ref b]) (n := 4) (Nat.le_of_ble_eq_true rfl)
  rw [lg_entry_eq]
  generalize (lg_sl ([.ref b]) ++ List.replicate (4 - (lg_sl ([.ref b])).length) Slot.unset).toArray = ls at hl ⊢
  have hl : lv_has ls 4 [(0, .ref b)] := hl
  refine va_new (ci := 6) (fs := [.null, .null, .null, .null, .null, .null, .null, .int 0]) (C := rfRX6) (T := rfTX6) (N := 8) hx hb hts rf_in_law_X6 rftyX6 rftyX6_ok hown (hts _ (List.mem_of_getElem? (i := 11) (by decide +kernel))) (hts _ (List.mem_of_getElem? (i := 12) (by decide +kernel))) (hts _ (List.mem_of_getElem? (i := 1) (by decide +kernel))) hK hP hD hS hA rfl (fun j hj => by rcases (show j = 0 ∨ j = 1 ∨ j = 2 ∨ j = 3 ∨ j = 4 ∨ j = 5 ∨ j = 6 ∨ j = 7 by omega) with rfl | rfl | rfl | rfl | rfl | rfl | rfl | rfl <;> rfl) (Nat.le_of_ble_eq_true rfl) (Nat.le_of_ble_eq_true rfl) rf_dl_0 (fun q0 H hP hD hS => ?_)
  have hP : va_P D rf_cl [(q0, .inr (6, [.null, .null, .null, .null, .null, .null, .null, .int 0]))] H := hP
  have hD : va_D A [(q0, .inr (6, [.null, .null, .null, .null, .null, .null, .null, .int 0]))] := hD
  refine W.widen (k := 1) (n := 8) (Nat.le_of_ble_eq_true rfl) (Nat.le_of_ble_eq_true rfl) ?_
  refine lv_dup hx hb rf_dl_3 rfl ?_
  refine rf_call (wr := []) (As := []) (rest := [.ref q0]) ⟨hx, hb, hml, hown, hts⟩ (rf_c_X6_init l D cA q0) (cwI 0 hts rf_g_law_X6_init rfl rfl rfl (hts _ (List.mem_of_getElem? (i := 1) (by decide +kernel))) (hts _ (List.mem_of_getElem? (i := 13) (by decide +kernel))) (hts _ (List.mem_of_getElem? (i := 14) (by decide +kernel))) rfl rf_yd_X6_init ⟨Nat.le_of_ble_eq_true rfl, Nat.le_of_ble_eq_true rfl⟩) hK hP hD hA hS [0] [] rfl rfl (by decide) (by decide) (by decide) rfl hl.1 rfl (Nat.le_of_ble_eq_true rfl) rf_dl_4 ⟨Nat.le_of_ble_eq_true rfl, Nat.le_of_ble_eq_true rfl⟩ (fun z4 H locs hP hD hS => ?_)
  have hP : va_P D rf_cl [(z4, .inl (cA, 1144, .inl rf_Z))] H := hP
  have hD : va_D A [(z4, .inl (cA, 1144, .inl rf_Z))] := hD
  refine W.widen (k := 22) (n := 1915) (Nat.le_of_ble_eq_true rfl) (Nat.le_of_ble_eq_true rfl) ?_
  refine lv_astore_n (lv' := [(1, .ref q0), (0, .ref b)]) hx hb rf_dl_7 rfl hl (by decide) rfl (fun ls hl => ?_)
  refine va_new (ci := 7) (fs := [.null, .null, .null, .int 0, .null, .int 0, .null, .null, .int 0, .int 0, .int 0, .null, .null, .null]) (C := rfRX7) (T := rfTX7) (N := 14) hx hb hts rf_in_law_X7 rftyX7 rftyX7_ok hown (hts _ (List.mem_of_getElem? (i := 559) (by decide +kernel))) (hts _ (List.mem_of_getElem? (i := 560) (by decide +kernel))) (hts _ (List.mem_of_getElem? (i := 8) (by decide +kernel))) hK hP hD hS hA rfl (fun j hj => by rcases (show j = 0 ∨ j = 1 ∨ j = 2 ∨ j = 3 ∨ j = 4 ∨ j = 5 ∨ j = 6 ∨ j = 7 ∨ j = 8 ∨ j = 9 ∨ j = 10 ∨ j = 11 ∨ j = 12 ∨ j = 13 by omega) with rfl | rfl | rfl | rfl | rfl | rfl | rfl | rfl | rfl | rfl | rfl | rfl | rfl | rfl <;> rfl) (Nat.le_of_ble_eq_true rfl) (Nat.le_of_ble_eq_true rfl) rf_dl_8 (fun q8 H hP hD hS => ?_)
  have hP : va_P D rf_cl [(z4, .inl (cA, 1144, .inl rf_Z)), (q8, .inr (7, [.null, .null, .null, .int 0, .null, .int 0, .null, .null, .int 0, .int 0, .int 0, .null, .null, .null]))] H := hP
  have hD : va_D A [(z4, .inl (cA, 1144, .inl rf_Z)), (q8, .inr (7, [.null, .null, .null, .int 0, .null, .int 0, .null, .null, .int 0, .int 0, .int 0, .null, .null, .null]))] := hD
  refine W.widen (k := 23) (n := 1929) (Nat.le_of_ble_eq_true rfl) (Nat.le_of_ble_eq_true rfl) ?_
  refine lv_dup hx hb rf_dl_11 rfl ?_
  refine rf_call (wr := [(z4, .inl (cA, 1144, .inl rf_Z))]) (As := []) (rest := [.ref q8]) ⟨hx, hb, hml, hown, hts⟩ (rf_c_X7_init l D cA q8) (cwI 0 hts rf_g_law_X7_init rfl rfl rfl (hts _ (List.mem_of_getElem? (i := 8) (by decide +kernel))) (hts _ (List.mem_of_getElem? (i := 561) (by decide +kernel))) (hts _ (List.mem_of_getElem? (i := 562) (by decide +kernel))) rfl rf_yd_X7_init ⟨Nat.le_of_ble_eq_true rfl, Nat.le_of_ble_eq_true rfl⟩) hK hP hD hA hS [1] [0] rfl rfl (by decide) (by decide) (by decide) rfl hl.1 rfl (Nat.le_of_ble_eq_true rfl) rf_dl_12 ⟨Nat.le_of_ble_eq_true rfl, Nat.le_of_ble_eq_true rfl⟩ (fun z12 H locs hP hD hS => ?_)
  have hP : va_P D rf_cl [(z4, .inl (cA, 1144, .inl rf_Z)), (z12, .inl (cA, 1144, .inl rf_Z))] H := hP
  have hD : va_D A [(z4, .inl (cA, 1144, .inl rf_Z)), (z12, .inl (cA, 1144, .inl rf_Z))] := hD
  refine W.widen (k := 32) (n := 4103) (Nat.le_of_ble_eq_true rfl) (Nat.le_of_ble_eq_true rfl) ?_
  refine lv_astore_n (lv' := [(2, .ref q8), (1, .ref q0), (0, .ref b)]) hx hb rf_dl_15 rfl hl (by decide) rfl (fun ls hl => ?_)
  refine lv_iconst (v := 0) hx hb rf_dl_16 (by decide) ?_
  refine lv_istore_n (lv' := [(3, .int 0), (2, .ref q8), (1, .ref q0), (0, .ref b)]) hx hb rf_dl_17 rfl hl (by decide) rfl (fun ls hl => ?_)
  refine lv_iload_n hx hb rf_dl_18 rfl (lv_at hl 0 rfl) ?_
  refine lv_aload_n hx hb rf_dl_19 rfl (lv_at hl 3 rfl) ?_
  refine va_slen hx hb hX hbl hbA hS rf_dl_20 ?_
  refine lv_iconst (v := 4) hx hb rf_dl_21 (by decide) ?_
  refine lv_isub hx hb rf_dl_22 ?_
  refine lv_icmp_gt (tgt := 753) hx hb rf_dl_23 (by decide) (fun h3 => ?_) (fun h3 => absurd (by decide) h3)
  refine lv_iconst (v := 1) hx hb rf_dl_753 (by decide) ?_
  refine va_forget (fun q hq => by have h9 := hS.2.2 q hq; rw [← hAe] at h9; exact h9) ?_
  refine rf_ret hx hb hr hlocks rf_dl_754 ⟨z4, z12, _, _, fun h => ?_, ?_, ?_, hP 0 _ rfl, hP 1 _ rfl, ?_, ?_⟩
  · exact absurd (hD.1 0 1 _ _ rfl rfl h) (by decide)
  · have h9 := hD.2 0 _ rfl; rw [← hAe] at h9; exact h9
  · have h9 := hD.2 1 _ rfl; rw [← hAe] at h9; exact h9
  · exact rf_size
  · exact rf_size
abbrev rf_hd : Spec := headSpec (Jvm.Cond.code x code maxLocals ret :: tables_1) rf_room
def rf_Pre (b : Addr) (args : Array Value) (s : State) : Prop := args = #[.ref b] ∧ s.IntsAt b []
set_option maxHeartbeats 4000000 in
theorem rf_walk (l : Launch) (b : Addr) : MetFree l x rf_hd (rf_Pre b) (fun _ _ _ _ _ => True) rf_Q := by
  refine MetFree.of_bodyS (code := code) (maxLocals := maxLocals) (ret := ret) (by decide) ?_ ?_
  · intro args s m h hn
    obtain ⟨meth, c, h1, h2, h3, h4, h5, h6, -, -⟩ := Cond.code_spec hn (atoms_spec (ws := Jvm.Cond.code x code maxLocals ret :: tables_1) h _ List.mem_cons_self)
    exact ⟨meth, c, h1, h2, h3, h4, h5, h6⟩
  · intro p e s m args below meth c s₁ B hml0 hP _
    obtain ⟨rfl, hx⟩ := hP
    obtain ⟨scr, harrAt, hlist, hof, hsmall⟩ := hx
    obtain ⟨hcb, hkn, -, -⟩ := State.arrayAt?_spec harrAt
    have hown : s.vm.findClass "DollGarlandsLaw" = some m.cls := findClass_of_methodNamed B.named
    have hts0 : ∀ c ∈ (Jvm.Cond.code x code maxLocals ret :: tables_1), c.before #[Value.ref b] s = true := atoms_spec (ws := Jvm.Cond.code x code maxLocals ret :: tables_1) B.pre
    have hts : ∀ w ∈ tables_1, w.before #[Value.ref b] s = true := fun w hw => hts0 w (List.mem_cons_of_mem _ hw)
    have hml : c.maxLocals = 4 := B.maxLocals_eq (hts0 _ List.mem_cons_self)
    have X₀ : Stand p l e rf_room s m #[Value.ref b] below meth c s₁ [] 0 0 := Stand.of_body B
    have hh0 : s₁.heap = s.heap := by rw [B.state]; rfl
    have hsz : scr.slots.size = 0 := by rw [← Array.length_toList, hlist]; rfl
    have hbl : b < s.heap.size := (Array.getElem?_eq_some_iff.mp hcb).1
    have hX : va_X b 0 (fun _ => 0) s s.heap := ⟨scr, hcb, hof, hkn, hsz, fun j hj => absurd hj (Nat.not_lt_zero j)⟩
    have K : W p l e rf_room s m #[Value.ref b] below meth c s₁.heap [] 0 0 (rf_end below #[Value.ref b] s) (entryFrame m ([Value.ref b] : List Value).toArray 4) := by
      rw [hh0]
      exact rf_start l B.exec B.bytes B.returns hml hown hts hX hbl B.notSynchronized
    obtain ⟨t, a1, o, b1, b2, b3⟩ := K s₁ rfl X₀
    exact ⟨t, o, a1, b1, b2, b3⟩
/-! the start: the witness' own machine, its script empty -/
def rf_s : State := start1.aboutOf #[]
theorem rf_vm : rf_s.setVm start1.about.vm = rf_s := rfl
theorem rf_tables : tables_1.all (fun c => c.onTables || c.before start1.args0 rf_s) = true := by decide +kernel
theorem rf_words : ∀ c ∈ (Cond.code x code maxLocals ret :: tables_1), c.before start1.args0 rf_s = true := by
  have key : ∀ c : Cond, c.onTables = true → c.before start1.args0 start1.about = true → c.before start1.args0 rf_s = true := by
    intro c hc h
    have e1 := Cond.onTables_vm (A := start1.args0) (A' := start1.args0) (U := rf_s) (U' := start1.about) start1.about.vm c hc
    have h1 : rf_s.setVm start1.about.vm = rf_s := rfl
    have h2 : start1.about.setVm start1.about.vm = start1.about := rfl
    rw [h1, h2] at e1
    rw [e1]
    exact h
  intro c hc
  rcases List.mem_cons.mp hc with h | h
  · rw [h]
    exact key _ rfl start1.word_code
  · have h1 := List.all_eq_true.mp rf_tables c h
    cases hq : c.onTables with
    | true => exact key c hq (start1.words c hc)
    | false => rw [hq] at h1; simpa using h1
set_option maxRecDepth 16384 in
theorem rf_atStart : AtStart classFile x code maxLocals ret World_1 tables_1 room_1 Calls_1 rest_1 Pre_1 launch0 start1.p0 start1.e0 rf_s ⟨0, 0⟩ start1.args0 Lib.HandBits.below0 :=
  ⟨lists_1, trivial, launch0.admits_env _ _ _, launch0.least_env, fairChoices_fair.cas, fairChoices_fair.clock, rfl, by decide +kernel, by decide +kernel,
    (Spec.applies_iff rfl).mpr ⟨rfl, rfl, rfl, by decide +kernel, by decide +kernel, by decide +kernel, launch0.hasRoom_least _ room_1 (by decide +kernel) (by decide +kernel) (by decide +kernel) (by decide +kernel) (by decide +kernel) (by decide +kernel), atoms_intro rf_words⟩,
    trivial, (show rest_1_c.before start1.args0 rf_s = true by decide +kernel), (show (Cond.and given_1 narrow_1).before start1.args0 rf_s = true by decide +kernel)⟩
theorem rf_applies : rf_hd.applies x start1.e0.platform rf_s = true :=
  (Spec.applies_iff rfl).mpr ⟨rfl, rfl, rfl, by decide +kernel, by decide +kernel, by decide +kernel, launch0.hasRoom_least _ rf_room (by decide +kernel) (by decide +kernel) (by decide +kernel) (by decide +kernel) (by decide +kernel) (by decide +kernel), atoms_intro rf_words⟩
theorem rf_runs : ∃ (n : Nat) (o : Outcome), (∀ k, k < n → Within (stepsAlone start1.p0.tables start1.e0 k rf_s) Lib.HandBits.below0) ∧ (stepsAlone start1.p0.tables start1.e0 n rf_s).status = .running ∧ Ended (stepsAlone start1.p0.tables start1.e0 n rf_s) Lib.HandBits.below0 o ∧ rf_Q start1.args0 rf_s o (stepsAlone start1.p0.tables start1.e0 n rf_s) :=
  rf_walk launch0 0 start1.p0 start1.e0 (launch0.admits_env _ _ _) fairChoices_fair.cas fairChoices_fair.clock rf_s ⟨0, 0⟩ start1.args0 Lib.HandBits.below0 rfl ((Spec.applies_iff_loose rfl).mp rf_applies).1
    ⟨rfl, by
      have harr : (Cond.arrayOf (.arg 0) .int).before start1.args0 rf_s = true := by decide +kernel
      have hlen : (Cond.isInt (.length (.arg 0))).before start1.args0 rf_s = true := by decide +kernel
      have hall : (Cond.all (.arg 0) (.isInt (.elem (.arg 0) (.index 0)))).before start1.args0 rf_s = true := by decide +kernel
      obtain ⟨b, xs, hb, hx⟩ := State.ints_of_pre rfl harr hlen hall
      have h0 : b = 0 := by
        have h1 : start1.args0[0]? = some (Value.ref 0) := rfl
        have h2 : start1.args0[0]? = some (Value.ref b) := hb
        rw [h1] at h2
        cases h2
        rfl
      subst h0
      have h3 : xs = [] := by
        obtain ⟨scr, harrAt, hlist, hof, hsmall⟩ := hx
        obtain ⟨hcb, hkn, -, -⟩ := State.arrayAt?_spec harrAt
        have h4 : rf_s.heap[0]? = some { cls := 13, slots := #[], vm := .none } := rfl
        rw [h4] at hcb
        cases hcb
        have h5 := congrArg List.length hlist
        simp at h5
        exact List.eq_nil_of_length_eq_zero h5.symm
      rw [← h3]
      exact hx⟩ trivial
/-- no end with two cells of 1144 slots that are new keeps within the printed 2215 slots -/
theorem rf_not {a : Array Value} {s t : State} {o : Outcome} {L : List Loc} {k : Nat} (hq : rf_Q a s o t) (hF : Framed s o t L k 2215) : False := by
  obtain ⟨-, -, i, j, x, y, hij, hi, hj, hx, hy, h1, h2⟩ := hq
  obtain ⟨-, -, -, -, -, -, hs, -⟩ := hF
  have hs : ((t.heap.toList.drop s.heap.size).map (·.slots.size)).sum ≤ 2215 := hs
  have g1 : (t.heap.toList.drop s.heap.size)[i - s.heap.size]? = some x := by
    rw [List.getElem?_drop, Nat.add_sub_cancel' hi, Array.getElem?_toList]
    exact hx
  have g2 : (t.heap.toList.drop s.heap.size)[j - s.heap.size]? = some y := by
    rw [List.getElem?_drop, Nat.add_sub_cancel' hj, Array.getElem?_toList]
    exact hy
  have h3 := rf_sum2 _ (i - s.heap.size) (j - s.heap.size) x y (by omega) g1 g2
  omega
/-- THE STATEMENT'S OWN WORD OF A REFUTATION, of both halves: a start that meets every premise (the empty script), from which the law returns, and answers 1, at an end that the printed room doesn't allow -/
theorem refuted_1_1 : RefutedClaimed_1_1 := by
  obtain ⟨n, o, h1, h2, h3, h4⟩ := rf_runs
  exact ⟨launch0, start1.p0, start1.e0, rf_s, ⟨0, 0⟩, start1.args0, Lib.HandBits.below0, rfl, rf_atStart, n, o, h1, h2, h3, fun h => rf_not h4 h.2⟩
theorem refuted_1_2 : RefutedClaimed_1_2 := by
  obtain ⟨n, o, h1, h2, h3, h4⟩ := rf_runs
  exact ⟨launch0, start1.p0, start1.e0, rf_s, ⟨0, 0⟩, start1.args0, Lib.HandBits.below0, rfl, rf_atStart, n, o, h1, h2, h3, fun h => rf_not h4 h.2⟩
theorem rf_apart {s : State} {below : List Frame} {o : Outcome} (h : Ended s below o) (hw : Within s below) : False := by
  obtain ⟨above, ha, hne, hnt⟩ := hw
  have hlen : s.frames.length = above.length + below.length := by rw [ha, List.length_append]
  have hpos : 0 < above.length := List.length_pos_iff.mpr hne
  cases o with
  | threw a =>
    have h1 : s.frames = .throwing a :: below := h
    rw [ha] at h1
    have h2 : above ++ below = [Frame.throwing a] ++ below := h1
    exact hnt a (List.append_cancel_right h2)
  | returned v =>
    have h2 : s.frames.length = below.length := by
      cases below with
      | nil =>
        obtain ⟨-, h3⟩ := h
        rw [h3]
      | cons f r =>
        cases f with
        | java g => obtain ⟨c, i, len, -, -, h3⟩ := h; rw [h3]; rfl
        | native g => have h3 : s.frames = _ := h; rw [h3]; rfl
        | proc g => have h3 : s.frames = _ := h; rw [h3]; rfl
        | _ => obtain ⟨-, h3⟩ := h; rw [h3]
    omega
/-- so what is owed is false -/
theorem refuted : ¬ (Claimed_1_1 ∧ Claimed_1_2) ∧ ¬ Claimed_1_1 ∧ ¬ Claimed_1_2 := by
  have key : ∀ (Q : Tables → Env → Array Value → State → Outcome → State → Prop), (∀ tb e a s o t, Q tb e a s o t → ∃ L k, Framed s o t L k 2215) → ¬ ArmFor flags0 classFile x code maxLocals ret World_1 tables_1 room_1 Calls_1 rest_1 Pre_1 Q := by
    intro Q hQ h
    obtain ⟨n, o, h1, h2, h3, h4⟩ := rf_runs
    obtain ⟨a1, a2, a3, a4, a5, a6, a7, a8, a9, a10, a11, a12, a13⟩ := rf_atStart
    obtain ⟨n', o', k1, k2, k3, k4⟩ := h launch0 rfl a1 a2 start1.p0 start1.e0 a3 a5 a6 rf_s ⟨0, 0⟩ start1.args0 Lib.HandBits.below0 a7 a8 a9 a10 ⟨a11, a12, a13⟩
    have hn : n' = n := by
      rcases Nat.lt_trichotomy n' n with q | q | q
      · exact (rf_apart k3 (h1 _ q)).elim
      · exact q
      · exact (rf_apart h3 (k1 _ q)).elim
    subst hn
    obtain ⟨L, k, hF⟩ := hQ _ _ _ _ _ _ k4
    obtain ⟨⟨v, hv⟩, hF2⟩ := hF
    obtain ⟨ho, hF0, hbig⟩ := h4
    exact rf_not (a := start1.args0) (o := o) ⟨ho, hF0, hbig⟩ ⟨hF0.1, hF2⟩
  have f1 : ¬ Claimed_1_1 := key _ (fun _ _ _ _ _ _ h => ⟨_, _, h.2⟩)
  have f2 : ¬ Claimed_1_2 := key _ (fun _ _ _ _ _ _ h => ⟨_, _, h.2⟩)
  exact ⟨fun h => f1 h.1, f1, f2⟩
end
