/-! names, fields, words and decode rows of the constructors and of Row.put, out of the names that TURN printed (prefix rf) -/
theorem rf_goodIn_r {big : List Cond} (ws : List Cond) (ps : List Nat) (hp : ws = ps.filterMap (fun i => big[i]?)) (h : ws.all goodWord = true) : GoodIn big ws := by
  intro w hw
  have h1 := List.all_eq_true.mp h w hw
  rw [hp] at hw
  obtain ⟨i, -, hi⟩ := List.mem_filterMap.mp hw
  have hm : w ∈ big := by first | exact List.mem_of_getElem? hi | exact List.getElem?_mem hi
  exact ⟨hm, good_of_word h1⟩
theorem rf_goodIn_app {big a b : List Cond} (ha : GoodIn big a) (hb : GoodIn big b) : GoodIn big (a ++ b) := fun w h => (List.mem_append.mp h).elim (ha w) (hb w)
def rfRX0 : String := "DollGarlands$Chains"
def rfTX0 : u_T := fun k => match k with
  | 0 => ("DollGarlands$Chains", "table", "LDollGarlands$Table;", true)
  | 1 => ("DollGarlands$Chains", "followers", "LDollGarlands$Row;", true)
  | 2 => ("DollGarlands$Chains", "endings", "LDollGarlands$Row;", true)
  | _ => ("DollGarlands$Chains", "longer", "LDollGarlands$Row;", true)
def rftyX0 : Nat → FieldType := fun k => match k with
  | 0 => .object "DollGarlands$Table"
  | 1 => .object "DollGarlands$Row"
  | 2 => .object "DollGarlands$Row"
  | _ => .object "DollGarlands$Row"
abbrev rfwsX00 : List Cond := u_ws rfRX0 rfTX0 4
theorem rfnmX0 : ∀ a, a < 4 → ∀ b, b < 4 → a ≠ b → (rfTX0 a).2.1 ≠ (rfTX0 b).2.1 := by decide +kernel
theorem rftyX0_ok : ∀ k, k < 4 → parseFieldDescriptor (rfTX0 k).2.2.1 = some (rftyX0 k) := by decide +kernel
def rfRX1 : String := "DollGarlands$History"
def rfTX1 : u_T := fun k => match k with
  | 0 => ("DollGarlands$History", "states", "LDollGarlands$Row;", true)
  | 1 => ("DollGarlands$History", "oldest", "I", false)
  | _ => ("DollGarlands$History", "recorded", "I", false)
def rftyX1 : Nat → FieldType := fun k => match k with
  | 0 => .object "DollGarlands$Row"
  | 1 => .int
  | _ => .int
abbrev rfwsX10 : List Cond := u_ws rfRX1 rfTX1 3
theorem rfnmX1 : ∀ a, a < 3 → ∀ b, b < 3 → a ≠ b → (rfTX1 a).2.1 ≠ (rfTX1 b).2.1 := by decide +kernel
theorem rftyX1_ok : ∀ k, k < 3 → parseFieldDescriptor (rfTX1 k).2.2.1 = some (rftyX1 k) := by decide +kernel
def rfRX2 : String := "DollGarlands$Looks"
def rfTX2 : u_T := fun k => match k with
  | _ => ("DollGarlands$Looks", "table", "LDollGarlands$Table;", true)
def rftyX2 : Nat → FieldType := fun k => match k with
  | _ => .object "DollGarlands$Table"
abbrev rfwsX20 : List Cond := u_ws rfRX2 rfTX2 1
theorem rfnmX2 : ∀ a, a < 1 → ∀ b, b < 1 → a ≠ b → (rfTX2 a).2.1 ≠ (rfTX2 b).2.1 := by decide +kernel
theorem rftyX2_ok : ∀ k, k < 1 → parseFieldDescriptor (rfTX2 k).2.2.1 = some (rftyX2 k) := by decide +kernel
def rfRX3 : String := "DollGarlands$Row"
def rfTX3 : u_T := fun k => match k with
  | _ => ("DollGarlands$Row", "cells", "[I", true)
def rftyX3 : Nat → FieldType := fun k => match k with
  | _ => .array .int
abbrev rfwsX30 : List Cond := u_ws rfRX3 rfTX3 1
theorem rfnmX3 : ∀ a, a < 1 → ∀ b, b < 1 → a ≠ b → (rfTX3 a).2.1 ≠ (rfTX3 b).2.1 := by decide +kernel
theorem rftyX3_ok : ∀ k, k < 1 → parseFieldDescriptor (rfTX3 k).2.2.1 = some (rftyX3 k) := by decide +kernel
def rfRX4 : String := "DollGarlands$Table"
def rfTX4 : u_T := fun k => match k with
  | _ => ("DollGarlands$Table", "cells", "LDollGarlands$Row;", true)
def rftyX4 : Nat → FieldType := fun k => match k with
  | _ => .object "DollGarlands$Row"
abbrev rfwsX40 : List Cond := u_ws rfRX4 rfTX4 1
theorem rfnmX4 : ∀ a, a < 1 → ∀ b, b < 1 → a ≠ b → (rfTX4 a).2.1 ≠ (rfTX4 b).2.1 := by decide +kernel
theorem rftyX4_ok : ∀ k, k < 1 → parseFieldDescriptor (rfTX4 k).2.2.1 = some (rftyX4 k) := by decide +kernel
def rfRX5 : String := "DollGarlands$Text"
def rfTX5 : u_T := fun k => match k with
  | 0 => ("DollGarlands$Text", "characters", "LDollGarlands$Row;", true)
  | _ => ("DollGarlands$Text", "length", "I", false)
def rftyX5 : Nat → FieldType := fun k => match k with
  | 0 => .object "DollGarlands$Row"
  | _ => .int
abbrev rfwsX50 : List Cond := u_ws rfRX5 rfTX5 2
theorem rfnmX5 : ∀ a, a < 2 → ∀ b, b < 2 → a ≠ b → (rfTX5 a).2.1 ≠ (rfTX5 b).2.1 := by decide +kernel
theorem rftyX5_ok : ∀ k, k < 2 → parseFieldDescriptor (rfTX5 k).2.2.1 = some (rftyX5 k) := by decide +kernel
def rfRX6 : String := "DollGarlands"
def rfTX6 : u_T := fun k => match k with
  | 0 => ("DollGarlands", "table", "LDollGarlands$Table;", true)
  | 1 => ("DollGarlands", "looks", "LDollGarlands$Looks;", true)
  | 2 => ("DollGarlands", "chains", "LDollGarlands$Chains;", true)
  | 3 => ("DollGarlands", "history", "LDollGarlands$History;", true)
  | 4 => ("DollGarlands", "text", "LDollGarlands$Text;", true)
  | 5 => ("DollGarlands", "snapshot", "LDollGarlands$Row;", true)
  | 6 => ("DollGarlands", "bench", "LDollGarlands$Row;", true)
  | _ => ("DollGarlands", "hasSnapshot", "Z", false)
def rftyX6 : Nat → FieldType := fun k => match k with
  | 0 => .object "DollGarlands$Table"
  | 1 => .object "DollGarlands$Looks"
  | 2 => .object "DollGarlands$Chains"
  | 3 => .object "DollGarlands$History"
  | 4 => .object "DollGarlands$Text"
  | 5 => .object "DollGarlands$Row"
  | 6 => .object "DollGarlands$Row"
  | _ => .boolean
abbrev rfwsX60 : List Cond := u_ws rfRX6 rfTX6 8
theorem rfnmX6 : ∀ a, a < 8 → ∀ b, b < 8 → a ≠ b → (rfTX6 a).2.1 ≠ (rfTX6 b).2.1 := by decide +kernel
theorem rftyX6_ok : ∀ k, k < 8 → parseFieldDescriptor (rfTX6 k).2.2.1 = some (rftyX6 k) := by decide +kernel
def rfRX7 : String := "DollGarlandsModel"
def rfTX7 : u_T := fun k => match k with
  | 0 => ("DollGarlandsModel", "all", "[I", true)
  | 1 => ("DollGarlandsModel", "kept", "[I", true)
  | 2 => ("DollGarlandsModel", "history", "[I", true)
  | 3 => ("DollGarlandsModel", "historyLong", "I", false)
  | 4 => ("DollGarlandsModel", "snapshot", "[I", true)
  | 5 => ("DollGarlandsModel", "isKept", "I", false)
  | 6 => ("DollGarlandsModel", "row", "[I", true)
  | 7 => ("DollGarlandsModel", "text", "[I", true)
  | 8 => ("DollGarlandsModel", "textLong", "I", false)
  | 9 => ("DollGarlandsModel", "spot", "I", false)
  | 10 => ("DollGarlandsModel", "read", "I", false)
  | 11 => ("DollGarlandsModel", "far", "[I", true)
  | 12 => ("DollGarlandsModel", "ending", "[I", true)
  | _ => ("DollGarlandsModel", "longer", "[I", true)
def rftyX7 : Nat → FieldType := fun k => match k with
  | 0 => .array .int
  | 1 => .array .int
  | 2 => .array .int
  | 3 => .int
  | 4 => .array .int
  | 5 => .int
  | 6 => .array .int
  | 7 => .array .int
  | 8 => .int
  | 9 => .int
  | 10 => .int
  | 11 => .array .int
  | 12 => .array .int
  | _ => .array .int
abbrev rfwsX70 : List Cond := u_ws rfRX7 rfTX7 14
theorem rfnmX7 : ∀ a, a < 14 → ∀ b, b < 14 → a ≠ b → (rfTX7 a).2.1 ≠ (rfTX7 b).2.1 := by decide +kernel
theorem rftyX7_ok : ∀ k, k < 14 → parseFieldDescriptor (rfTX7 k).2.2.1 = some (rftyX7 k) := by decide +kernel
abbrev rfcX0_init : ByteArray := prog_2_method_1_code
def rfyX0_init : MethodName := ⟨rfRX0, "<init>", "(LDollGarlands$Table;)V"⟩
abbrev rfcX1_init : ByteArray := prog_3_method_1_code
def rfyX1_init : MethodName := ⟨rfRX1, "<init>", "()V"⟩
abbrev rfcX2_init : ByteArray := prog_4_method_1_code
def rfyX2_init : MethodName := ⟨rfRX2, "<init>", "(LDollGarlands$Table;)V"⟩
abbrev rfcX3_init : ByteArray := prog_5_method_1_code
def rfyX3_init : MethodName := ⟨rfRX3, "<init>", "(I)V"⟩
abbrev rfcX4_init : ByteArray := prog_6_method_1_code
def rfyX4_init : MethodName := ⟨rfRX4, "<init>", "()V"⟩
abbrev rfcX5_init : ByteArray := prog_7_method_1_code
def rfyX5_init : MethodName := ⟨rfRX5, "<init>", "()V"⟩
abbrev rfcX6_init : ByteArray := prog_1_method_1_code
def rfyX6_init : MethodName := ⟨rfRX6, "<init>", "()V"⟩
abbrev rfcX7_init : ByteArray := prog_9_method_1_code
def rfyX7_init : MethodName := ⟨rfRX7, "<init>", "()V"⟩
abbrev rfcX3_put : ByteArray := prog_5_method_3_code
def rfyX3_put : MethodName := ⟨rfRX3, "put", "(II)V"⟩
def rfwsX3_init : List Cond := .code rfyX3_init rfcX3_init 2 none :: ([.methodLink rfRX3 1 objectInit, .instanceMethod objectInit, .code objectInit ⟨#[0xb1]⟩ 1 none, .arrayClass .int, .fieldLink rfRX3 7 "DollGarlands$Row" "cells" "[I"] ++ rfwsX30)
def rfwsX3_put : List Cond := .code rfyX3_put rfcX3_put 3 none :: ([.fieldLink rfRX3 7 "DollGarlands$Row" "cells" "[I"] ++ rfwsX30)
def rfwsX0_init : List Cond := .code rfyX0_init rfcX0_init 2 none :: ([.methodLink rfRX0 3 objectInit, .instanceMethod objectInit, .code objectInit ⟨#[0xb1]⟩ 1 none, .fieldLink rfRX0 9 "DollGarlands$Chains" "table" "LDollGarlands$Table;", .classLink rfRX0 15 rfRX3, .instantiable rfRX3 1, .initialized rfRX3, .fieldLink rfRX0 20 "DollGarlands$Chains" "followers" "LDollGarlands$Row;", .fieldLink rfRX0 24 "DollGarlands$Chains" "endings" "LDollGarlands$Row;", .fieldLink rfRX0 27 "DollGarlands$Chains" "longer" "LDollGarlands$Row;", .methodLink rfRX0 17 rfyX3_init, .instanceMethod rfyX3_init, .code rfyX3_init rfcX3_init 2 none, .methodLink rfRX3 1 objectInit, .arrayClass .int, .fieldLink rfRX3 7 "DollGarlands$Row" "cells" "[I"] ++ rfwsX00 ++ rfwsX30)
def rfwsX1_init : List Cond := .code rfyX1_init rfcX1_init 1 none :: ([.methodLink rfRX1 3 objectInit, .instanceMethod objectInit, .code objectInit ⟨#[0xb1]⟩ 1 none, .classLink rfRX1 9 rfRX3, .instantiable rfRX3 1, .initialized rfRX3, .fieldLink rfRX1 16 "DollGarlands$History" "states" "LDollGarlands$Row;", .fieldLink rfRX1 22 "DollGarlands$History" "oldest" "I", .fieldLink rfRX1 26 "DollGarlands$History" "recorded" "I", .methodLink rfRX1 13 rfyX3_init, .instanceMethod rfyX3_init, .code rfyX3_init rfcX3_init 2 none, .methodLink rfRX3 1 objectInit, .arrayClass .int, .fieldLink rfRX3 7 "DollGarlands$Row" "cells" "[I"] ++ rfwsX30 ++ rfwsX10)
def rfwsX2_init : List Cond := .code rfyX2_init rfcX2_init 2 none :: ([.methodLink rfRX2 3 objectInit, .instanceMethod objectInit, .code objectInit ⟨#[0xb1]⟩ 1 none, .fieldLink rfRX2 9 "DollGarlands$Looks" "table" "LDollGarlands$Table;"] ++ rfwsX20)
def rfwsX4_init : List Cond := .code rfyX4_init rfcX4_init 2 none :: ([.methodLink rfRX4 5 objectInit, .instanceMethod objectInit, .code objectInit ⟨#[0xb1]⟩ 1 none, .classLink rfRX4 11 rfRX3, .instantiable rfRX3 1, .initialized rfRX3, .fieldLink rfRX4 16 "DollGarlands$Table" "cells" "LDollGarlands$Row;", .methodLink rfRX4 13 rfyX3_init, .instanceMethod rfyX3_init, .code rfyX3_init rfcX3_init 2 none, .methodLink rfRX3 1 objectInit, .arrayClass .int, .fieldLink rfRX3 7 "DollGarlands$Row" "cells" "[I", .methodLink rfRX4 20 rfyX3_put, .instanceMethod rfyX3_put, .selects rfRX3 rfyX3_put rfyX3_put, .code rfyX3_put rfcX3_put 3 none] ++ rfwsX30 ++ rfwsX40)
def rfwsX5_init : List Cond := .code rfyX5_init rfcX5_init 1 none :: ([.methodLink rfRX5 3 objectInit, .instanceMethod objectInit, .code objectInit ⟨#[0xb1]⟩ 1 none, .classLink rfRX5 9 rfRX3, .instantiable rfRX3 1, .initialized rfRX3, .fieldLink rfRX5 14 "DollGarlands$Text" "characters" "LDollGarlands$Row;", .fieldLink rfRX5 20 "DollGarlands$Text" "length" "I", .methodLink rfRX5 11 rfyX3_init, .instanceMethod rfyX3_init, .code rfyX3_init rfcX3_init 2 none, .methodLink rfRX3 1 objectInit, .arrayClass .int, .fieldLink rfRX3 7 "DollGarlands$Row" "cells" "[I"] ++ rfwsX30 ++ rfwsX50)
def rfwsX6_init_r1 : List Cond := [Cond.methodLink rfRX6 3 objectInit, Cond.instanceMethod objectInit, Cond.code objectInit ⟨#[0xb1]⟩ 1 none, Cond.classLink rfRX6 9 rfRX4, Cond.instantiable rfRX4 1, Cond.initialized rfRX4, Cond.fieldLink rfRX6 12 "DollGarlands" "table" "LDollGarlands$Table;", Cond.classLink rfRX6 16 rfRX2, Cond.instantiable rfRX2 1, Cond.initialized rfRX2, Cond.fieldLink rfRX6 21 "DollGarlands" "looks" "LDollGarlands$Looks;", Cond.classLink rfRX6 25 rfRX0, Cond.instantiable rfRX0 4, Cond.initialized rfRX0, Cond.fieldLink rfRX6 28 "DollGarlands" "chains" "LDollGarlands$Chains;", Cond.classLink rfRX6 32 rfRX1, Cond.instantiable rfRX1 3, Cond.initialized rfRX1, Cond.fieldLink rfRX6 35 "DollGarlands" "history" "LDollGarlands$History;", Cond.classLink rfRX6 39 rfRX5, Cond.instantiable rfRX5 2, Cond.initialized rfRX5, Cond.fieldLink rfRX6 42 "DollGarlands" "text" "LDollGarlands$Text;", Cond.classLink rfRX6 46 rfRX3]
def rfwsX6_init_r2 : List Cond := [Cond.instantiable rfRX3 1, Cond.initialized rfRX3, Cond.fieldLink rfRX6 51 "DollGarlands" "snapshot" "LDollGarlands$Row;", Cond.fieldLink rfRX6 55 "DollGarlands" "bench" "LDollGarlands$Row;", Cond.fieldLink rfRX6 58 "DollGarlands" "hasSnapshot" "Z", Cond.methodLink rfRX6 11 rfyX4_init, Cond.instanceMethod rfyX4_init, Cond.code rfyX4_init rfcX4_init 2 none, Cond.methodLink rfRX4 5 objectInit, Cond.classLink rfRX4 11 rfRX3, Cond.fieldLink rfRX4 16 "DollGarlands$Table" "cells" "LDollGarlands$Row;", Cond.methodLink rfRX4 13 rfyX3_init, Cond.instanceMethod rfyX3_init, Cond.code rfyX3_init rfcX3_init 2 none, Cond.methodLink rfRX3 1 objectInit, Cond.arrayClass .int, Cond.fieldLink rfRX3 7 "DollGarlands$Row" "cells" "[I", Cond.methodLink rfRX4 20 rfyX3_put, Cond.instanceMethod rfyX3_put, Cond.selects rfRX3 rfyX3_put rfyX3_put, Cond.code rfyX3_put rfcX3_put 3 none, Cond.methodLink rfRX6 18 rfyX2_init, Cond.instanceMethod rfyX2_init, Cond.code rfyX2_init rfcX2_init 2 none]
def rfwsX6_init_r3 : List Cond := [Cond.methodLink rfRX2 3 objectInit, Cond.fieldLink rfRX2 9 "DollGarlands$Looks" "table" "LDollGarlands$Table;", Cond.methodLink rfRX6 27 rfyX0_init, Cond.instanceMethod rfyX0_init, Cond.code rfyX0_init rfcX0_init 2 none, Cond.methodLink rfRX0 3 objectInit, Cond.fieldLink rfRX0 9 "DollGarlands$Chains" "table" "LDollGarlands$Table;", Cond.classLink rfRX0 15 rfRX3, Cond.fieldLink rfRX0 20 "DollGarlands$Chains" "followers" "LDollGarlands$Row;", Cond.fieldLink rfRX0 24 "DollGarlands$Chains" "endings" "LDollGarlands$Row;", Cond.fieldLink rfRX0 27 "DollGarlands$Chains" "longer" "LDollGarlands$Row;", Cond.methodLink rfRX0 17 rfyX3_init, Cond.methodLink rfRX6 34 rfyX1_init, Cond.instanceMethod rfyX1_init, Cond.code rfyX1_init rfcX1_init 1 none, Cond.methodLink rfRX1 3 objectInit, Cond.classLink rfRX1 9 rfRX3, Cond.fieldLink rfRX1 16 "DollGarlands$History" "states" "LDollGarlands$Row;", Cond.fieldLink rfRX1 22 "DollGarlands$History" "oldest" "I", Cond.fieldLink rfRX1 26 "DollGarlands$History" "recorded" "I", Cond.methodLink rfRX1 13 rfyX3_init, Cond.methodLink rfRX6 41 rfyX5_init, Cond.instanceMethod rfyX5_init, Cond.code rfyX5_init rfcX5_init 1 none]
def rfwsX6_init_r4 : List Cond := [Cond.methodLink rfRX5 3 objectInit, Cond.classLink rfRX5 9 rfRX3, Cond.fieldLink rfRX5 14 "DollGarlands$Text" "characters" "LDollGarlands$Row;", Cond.fieldLink rfRX5 20 "DollGarlands$Text" "length" "I", Cond.methodLink rfRX5 11 rfyX3_init, Cond.methodLink rfRX6 48 rfyX3_init]
def rfwsX6_init : List Cond := .code rfyX6_init rfcX6_init 1 none :: ((rfwsX6_init_r1 ++ (rfwsX6_init_r2 ++ (rfwsX6_init_r3 ++ rfwsX6_init_r4))) ++ rfwsX40 ++ rfwsX60 ++ rfwsX20 ++ rfwsX00 ++ rfwsX10 ++ rfwsX50 ++ rfwsX30)
def rfwsX7_init : List Cond := .code rfyX7_init rfcX7_init 2 none :: ([.methodLink rfRX7 1 objectInit, .instanceMethod objectInit, .code objectInit ⟨#[0xb1]⟩ 1 none, .arrayClass .int, .fieldLink rfRX7 7 "DollGarlandsModel" "all" "[I", .fieldLink rfRX7 13 "DollGarlandsModel" "kept" "[I", .fieldLink rfRX7 16 "DollGarlandsModel" "history" "[I", .fieldLink rfRX7 19 "DollGarlandsModel" "snapshot" "[I", .fieldLink rfRX7 22 "DollGarlandsModel" "row" "[I", .fieldLink rfRX7 25 "DollGarlandsModel" "text" "[I", .fieldLink rfRX7 28 "DollGarlandsModel" "far" "[I", .fieldLink rfRX7 31 "DollGarlandsModel" "ending" "[I", .fieldLink rfRX7 34 "DollGarlandsModel" "longer" "[I"] ++ rfwsX70)
theorem rfdX0_init_0 : decode rfcX0_init 0 = .ok (.aload_n 0, 1) := by decide +kernel
theorem rfdX0_init_1 : decode rfcX0_init 1 = .ok (.invokespecial 3, 3) := by decide +kernel
theorem rfdX0_init_4 : decode rfcX0_init 4 = .ok (.aload_n 0, 1) := by decide +kernel
theorem rfdX0_init_5 : decode rfcX0_init 5 = .ok (.aload_n 1, 1) := by decide +kernel
theorem rfdX0_init_6 : decode rfcX0_init 6 = .ok (.putfield 9, 3) := by decide +kernel
theorem rfdX0_init_9 : decode rfcX0_init 9 = .ok (.aload_n 0, 1) := by decide +kernel
theorem rfdX0_init_10 : decode rfcX0_init 10 = .ok (.new 15, 3) := by decide +kernel
theorem rfdX0_init_13 : decode rfcX0_init 13 = .ok (.dup, 1) := by decide +kernel
theorem rfdX0_init_14 : decode rfcX0_init 14 = .ok (.bipush 20, 2) := by decide +kernel
theorem rfdX0_init_16 : decode rfcX0_init 16 = .ok (.invokespecial 17, 3) := by decide +kernel
theorem rfdX0_init_19 : decode rfcX0_init 19 = .ok (.putfield 20, 3) := by decide +kernel
theorem rfdX0_init_22 : decode rfcX0_init 22 = .ok (.aload_n 0, 1) := by decide +kernel
theorem rfdX0_init_23 : decode rfcX0_init 23 = .ok (.new 15, 3) := by decide +kernel
theorem rfdX0_init_26 : decode rfcX0_init 26 = .ok (.dup, 1) := by decide +kernel
theorem rfdX0_init_27 : decode rfcX0_init 27 = .ok (.bipush 20, 2) := by decide +kernel
theorem rfdX0_init_29 : decode rfcX0_init 29 = .ok (.invokespecial 17, 3) := by decide +kernel
theorem rfdX0_init_32 : decode rfcX0_init 32 = .ok (.putfield 24, 3) := by decide +kernel
theorem rfdX0_init_35 : decode rfcX0_init 35 = .ok (.aload_n 0, 1) := by decide +kernel
theorem rfdX0_init_36 : decode rfcX0_init 36 = .ok (.new 15, 3) := by decide +kernel
theorem rfdX0_init_39 : decode rfcX0_init 39 = .ok (.dup, 1) := by decide +kernel
theorem rfdX0_init_40 : decode rfcX0_init 40 = .ok (.bipush 20, 2) := by decide +kernel
theorem rfdX0_init_42 : decode rfcX0_init 42 = .ok (.invokespecial 17, 3) := by decide +kernel
theorem rfdX0_init_45 : decode rfcX0_init 45 = .ok (.putfield 27, 3) := by decide +kernel
theorem rfdX0_init_48 : decode rfcX0_init 48 = .ok (.return_, 1) := by decide +kernel
theorem rfdX1_init_0 : decode rfcX1_init 0 = .ok (.aload_n 0, 1) := by decide +kernel
theorem rfdX1_init_1 : decode rfcX1_init 1 = .ok (.invokespecial 3, 3) := by decide +kernel
theorem rfdX1_init_4 : decode rfcX1_init 4 = .ok (.aload_n 0, 1) := by decide +kernel
theorem rfdX1_init_5 : decode rfcX1_init 5 = .ok (.new 9, 3) := by decide +kernel
theorem rfdX1_init_8 : decode rfcX1_init 8 = .ok (.dup, 1) := by decide +kernel
theorem rfdX1_init_9 : decode rfcX1_init 9 = .ok (.sipush 1144, 3) := by decide +kernel
theorem rfdX1_init_12 : decode rfcX1_init 12 = .ok (.invokespecial 13, 3) := by decide +kernel
theorem rfdX1_init_15 : decode rfcX1_init 15 = .ok (.putfield 16, 3) := by decide +kernel
theorem rfdX1_init_18 : decode rfcX1_init 18 = .ok (.aload_n 0, 1) := by decide +kernel
theorem rfdX1_init_19 : decode rfcX1_init 19 = .ok (.iconst 0, 1) := by decide +kernel
theorem rfdX1_init_20 : decode rfcX1_init 20 = .ok (.putfield 22, 3) := by decide +kernel
theorem rfdX1_init_23 : decode rfcX1_init 23 = .ok (.aload_n 0, 1) := by decide +kernel
theorem rfdX1_init_24 : decode rfcX1_init 24 = .ok (.iconst 0, 1) := by decide +kernel
theorem rfdX1_init_25 : decode rfcX1_init 25 = .ok (.putfield 26, 3) := by decide +kernel
theorem rfdX1_init_28 : decode rfcX1_init 28 = .ok (.return_, 1) := by decide +kernel
theorem rfdX2_init_0 : decode rfcX2_init 0 = .ok (.aload_n 0, 1) := by decide +kernel
theorem rfdX2_init_1 : decode rfcX2_init 1 = .ok (.invokespecial 3, 3) := by decide +kernel
theorem rfdX2_init_4 : decode rfcX2_init 4 = .ok (.aload_n 0, 1) := by decide +kernel
theorem rfdX2_init_5 : decode rfcX2_init 5 = .ok (.aload_n 1, 1) := by decide +kernel
theorem rfdX2_init_6 : decode rfcX2_init 6 = .ok (.putfield 9, 3) := by decide +kernel
theorem rfdX2_init_9 : decode rfcX2_init 9 = .ok (.return_, 1) := by decide +kernel
theorem rfdX3_init_0 : decode rfcX3_init 0 = .ok (.aload_n 0, 1) := by decide +kernel
theorem rfdX3_init_1 : decode rfcX3_init 1 = .ok (.invokespecial 1, 3) := by decide +kernel
theorem rfdX3_init_4 : decode rfcX3_init 4 = .ok (.aload_n 0, 1) := by decide +kernel
theorem rfdX3_init_5 : decode rfcX3_init 5 = .ok (.iload_n 1, 1) := by decide +kernel
theorem rfdX3_init_6 : decode rfcX3_init 6 = .ok (.ifCond .le 7, 3) := by decide +kernel
theorem rfdX3_init_9 : decode rfcX3_init 9 = .ok (.iload_n 1, 1) := by decide +kernel
theorem rfdX3_init_10 : decode rfcX3_init 10 = .ok (.goto 4, 3) := by decide +kernel
theorem rfdX3_init_13 : decode rfcX3_init 13 = .ok (.iconst 0, 1) := by decide +kernel
theorem rfdX3_init_14 : decode rfcX3_init 14 = .ok (.newarray .int, 2) := by decide +kernel
theorem rfdX3_init_16 : decode rfcX3_init 16 = .ok (.putfield 7, 3) := by decide +kernel
theorem rfdX3_init_19 : decode rfcX3_init 19 = .ok (.return_, 1) := by decide +kernel
theorem rfdX4_init_0 : decode rfcX4_init 0 = .ok (.aload_n 0, 1) := by decide +kernel
theorem rfdX4_init_1 : decode rfcX4_init 1 = .ok (.invokespecial 5, 3) := by decide +kernel
theorem rfdX4_init_4 : decode rfcX4_init 4 = .ok (.aload_n 0, 1) := by decide +kernel
theorem rfdX4_init_5 : decode rfcX4_init 5 = .ok (.new 11, 3) := by decide +kernel
theorem rfdX4_init_8 : decode rfcX4_init 8 = .ok (.dup, 1) := by decide +kernel
theorem rfdX4_init_9 : decode rfcX4_init 9 = .ok (.sipush 286, 3) := by decide +kernel
theorem rfdX4_init_12 : decode rfcX4_init 12 = .ok (.invokespecial 13, 3) := by decide +kernel
theorem rfdX4_init_15 : decode rfcX4_init 15 = .ok (.putfield 16, 3) := by decide +kernel
theorem rfdX4_init_18 : decode rfcX4_init 18 = .ok (.aload_n 0, 1) := by decide +kernel
theorem rfdX4_init_19 : decode rfcX4_init 19 = .ok (.getfield 16, 3) := by decide +kernel
theorem rfdX4_init_22 : decode rfcX4_init 22 = .ok (.iconst 1, 1) := by decide +kernel
theorem rfdX4_init_23 : decode rfcX4_init 23 = .ok (.iconst 3, 1) := by decide +kernel
theorem rfdX4_init_24 : decode rfcX4_init 24 = .ok (.invokevirtual 20, 3) := by decide +kernel
theorem rfdX4_init_27 : decode rfcX4_init 27 = .ok (.iconst 0, 1) := by decide +kernel
theorem rfdX4_init_28 : decode rfcX4_init 28 = .ok (.istore_n 1, 1) := by decide +kernel
theorem rfdX4_init_29 : decode rfcX4_init 29 = .ok (.iload_n 1, 1) := by decide +kernel
theorem rfdX4_init_30 : decode rfcX4_init 30 = .ok (.bipush 10, 2) := by decide +kernel
theorem rfdX4_init_32 : decode rfcX4_init 32 = .ok (.if_icmp .ge 40, 3) := by decide +kernel
theorem rfdX4_init_35 : decode rfcX4_init 35 = .ok (.aload_n 0, 1) := by decide +kernel
theorem rfdX4_init_36 : decode rfcX4_init 36 = .ok (.getfield 16, 3) := by decide +kernel
theorem rfdX4_init_39 : decode rfcX4_init 39 = .ok (.iconst 2, 1) := by decide +kernel
theorem rfdX4_init_40 : decode rfcX4_init 40 = .ok (.iload_n 1, 1) := by decide +kernel
theorem rfdX4_init_41 : decode rfcX4_init 41 = .ok (.iadd, 1) := by decide +kernel
theorem rfdX4_init_42 : decode rfcX4_init 42 = .ok (.iload_n 1, 1) := by decide +kernel
theorem rfdX4_init_43 : decode rfcX4_init 43 = .ok (.bipush 6, 2) := by decide +kernel
theorem rfdX4_init_45 : decode rfcX4_init 45 = .ok (.irem, 1) := by decide +kernel
theorem rfdX4_init_46 : decode rfcX4_init 46 = .ok (.invokevirtual 20, 3) := by decide +kernel
theorem rfdX4_init_49 : decode rfcX4_init 49 = .ok (.aload_n 0, 1) := by decide +kernel
theorem rfdX4_init_50 : decode rfcX4_init 50 = .ok (.getfield 16, 3) := by decide +kernel
theorem rfdX4_init_53 : decode rfcX4_init 53 = .ok (.bipush 12, 2) := by decide +kernel
theorem rfdX4_init_55 : decode rfcX4_init 55 = .ok (.iload_n 1, 1) := by decide +kernel
theorem rfdX4_init_56 : decode rfcX4_init 56 = .ok (.iadd, 1) := by decide +kernel
theorem rfdX4_init_57 : decode rfcX4_init 57 = .ok (.iload_n 1, 1) := by decide +kernel
theorem rfdX4_init_58 : decode rfcX4_init 58 = .ok (.iconst 1, 1) := by decide +kernel
theorem rfdX4_init_59 : decode rfcX4_init 59 = .ok (.iadd, 1) := by decide +kernel
theorem rfdX4_init_60 : decode rfcX4_init 60 = .ok (.bipush 6, 2) := by decide +kernel
theorem rfdX4_init_62 : decode rfcX4_init 62 = .ok (.irem, 1) := by decide +kernel
theorem rfdX4_init_63 : decode rfcX4_init 63 = .ok (.invokevirtual 20, 3) := by decide +kernel
theorem rfdX4_init_66 : decode rfcX4_init 66 = .ok (.iinc 1 1, 3) := by decide +kernel
theorem rfdX4_init_69 : decode rfcX4_init 69 = .ok (.goto (-40), 3) := by decide +kernel
theorem rfdX4_init_72 : decode rfcX4_init 72 = .ok (.return_, 1) := by decide +kernel
theorem rfdX5_init_0 : decode rfcX5_init 0 = .ok (.aload_n 0, 1) := by decide +kernel
theorem rfdX5_init_1 : decode rfcX5_init 1 = .ok (.invokespecial 3, 3) := by decide +kernel
theorem rfdX5_init_4 : decode rfcX5_init 4 = .ok (.aload_n 0, 1) := by decide +kernel
theorem rfdX5_init_5 : decode rfcX5_init 5 = .ok (.new 9, 3) := by decide +kernel
theorem rfdX5_init_8 : decode rfcX5_init 8 = .ok (.dup, 1) := by decide +kernel
theorem rfdX5_init_9 : decode rfcX5_init 9 = .ok (.bipush 80, 2) := by decide +kernel
theorem rfdX5_init_11 : decode rfcX5_init 11 = .ok (.invokespecial 11, 3) := by decide +kernel
theorem rfdX5_init_14 : decode rfcX5_init 14 = .ok (.putfield 14, 3) := by decide +kernel
theorem rfdX5_init_17 : decode rfcX5_init 17 = .ok (.aload_n 0, 1) := by decide +kernel
theorem rfdX5_init_18 : decode rfcX5_init 18 = .ok (.iconst 0, 1) := by decide +kernel
theorem rfdX5_init_19 : decode rfcX5_init 19 = .ok (.putfield 20, 3) := by decide +kernel
theorem rfdX5_init_22 : decode rfcX5_init 22 = .ok (.return_, 1) := by decide +kernel
theorem rfdX6_init_0 : decode rfcX6_init 0 = .ok (.aload_n 0, 1) := by decide +kernel
theorem rfdX6_init_1 : decode rfcX6_init 1 = .ok (.invokespecial 3, 3) := by decide +kernel
theorem rfdX6_init_4 : decode rfcX6_init 4 = .ok (.aload_n 0, 1) := by decide +kernel
theorem rfdX6_init_5 : decode rfcX6_init 5 = .ok (.new 9, 3) := by decide +kernel
theorem rfdX6_init_8 : decode rfcX6_init 8 = .ok (.dup, 1) := by decide +kernel
theorem rfdX6_init_9 : decode rfcX6_init 9 = .ok (.invokespecial 11, 3) := by decide +kernel
theorem rfdX6_init_12 : decode rfcX6_init 12 = .ok (.putfield 12, 3) := by decide +kernel
theorem rfdX6_init_15 : decode rfcX6_init 15 = .ok (.aload_n 0, 1) := by decide +kernel
theorem rfdX6_init_16 : decode rfcX6_init 16 = .ok (.new 16, 3) := by decide +kernel
theorem rfdX6_init_19 : decode rfcX6_init 19 = .ok (.dup, 1) := by decide +kernel
theorem rfdX6_init_20 : decode rfcX6_init 20 = .ok (.aload_n 0, 1) := by decide +kernel
theorem rfdX6_init_21 : decode rfcX6_init 21 = .ok (.getfield 12, 3) := by decide +kernel
theorem rfdX6_init_24 : decode rfcX6_init 24 = .ok (.invokespecial 18, 3) := by decide +kernel
theorem rfdX6_init_27 : decode rfcX6_init 27 = .ok (.putfield 21, 3) := by decide +kernel
theorem rfdX6_init_30 : decode rfcX6_init 30 = .ok (.aload_n 0, 1) := by decide +kernel
theorem rfdX6_init_31 : decode rfcX6_init 31 = .ok (.new 25, 3) := by decide +kernel
theorem rfdX6_init_34 : decode rfcX6_init 34 = .ok (.dup, 1) := by decide +kernel
theorem rfdX6_init_35 : decode rfcX6_init 35 = .ok (.aload_n 0, 1) := by decide +kernel
theorem rfdX6_init_36 : decode rfcX6_init 36 = .ok (.getfield 12, 3) := by decide +kernel
theorem rfdX6_init_39 : decode rfcX6_init 39 = .ok (.invokespecial 27, 3) := by decide +kernel
theorem rfdX6_init_42 : decode rfcX6_init 42 = .ok (.putfield 28, 3) := by decide +kernel
theorem rfdX6_init_45 : decode rfcX6_init 45 = .ok (.aload_n 0, 1) := by decide +kernel
theorem rfdX6_init_46 : decode rfcX6_init 46 = .ok (.new 32, 3) := by decide +kernel
theorem rfdX6_init_49 : decode rfcX6_init 49 = .ok (.dup, 1) := by decide +kernel
theorem rfdX6_init_50 : decode rfcX6_init 50 = .ok (.invokespecial 34, 3) := by decide +kernel
theorem rfdX6_init_53 : decode rfcX6_init 53 = .ok (.putfield 35, 3) := by decide +kernel
theorem rfdX6_init_56 : decode rfcX6_init 56 = .ok (.aload_n 0, 1) := by decide +kernel
theorem rfdX6_init_57 : decode rfcX6_init 57 = .ok (.new 39, 3) := by decide +kernel
theorem rfdX6_init_60 : decode rfcX6_init 60 = .ok (.dup, 1) := by decide +kernel
theorem rfdX6_init_61 : decode rfcX6_init 61 = .ok (.invokespecial 41, 3) := by decide +kernel
theorem rfdX6_init_64 : decode rfcX6_init 64 = .ok (.putfield 42, 3) := by decide +kernel
theorem rfdX6_init_67 : decode rfcX6_init 67 = .ok (.aload_n 0, 1) := by decide +kernel
theorem rfdX6_init_68 : decode rfcX6_init 68 = .ok (.new 46, 3) := by decide +kernel
theorem rfdX6_init_71 : decode rfcX6_init 71 = .ok (.dup, 1) := by decide +kernel
theorem rfdX6_init_72 : decode rfcX6_init 72 = .ok (.sipush 286, 3) := by decide +kernel
theorem rfdX6_init_75 : decode rfcX6_init 75 = .ok (.invokespecial 48, 3) := by decide +kernel
theorem rfdX6_init_78 : decode rfcX6_init 78 = .ok (.putfield 51, 3) := by decide +kernel
theorem rfdX6_init_81 : decode rfcX6_init 81 = .ok (.aload_n 0, 1) := by decide +kernel
theorem rfdX6_init_82 : decode rfcX6_init 82 = .ok (.new 46, 3) := by decide +kernel
theorem rfdX6_init_85 : decode rfcX6_init 85 = .ok (.dup, 1) := by decide +kernel
theorem rfdX6_init_86 : decode rfcX6_init 86 = .ok (.bipush 32, 2) := by decide +kernel
theorem rfdX6_init_88 : decode rfcX6_init 88 = .ok (.invokespecial 48, 3) := by decide +kernel
theorem rfdX6_init_91 : decode rfcX6_init 91 = .ok (.putfield 55, 3) := by decide +kernel
theorem rfdX6_init_94 : decode rfcX6_init 94 = .ok (.aload_n 0, 1) := by decide +kernel
theorem rfdX6_init_95 : decode rfcX6_init 95 = .ok (.iconst 0, 1) := by decide +kernel
theorem rfdX6_init_96 : decode rfcX6_init 96 = .ok (.putfield 58, 3) := by decide +kernel
theorem rfdX6_init_99 : decode rfcX6_init 99 = .ok (.return_, 1) := by decide +kernel
theorem rfdX7_init_0 : decode rfcX7_init 0 = .ok (.aload_n 0, 1) := by decide +kernel
theorem rfdX7_init_1 : decode rfcX7_init 1 = .ok (.invokespecial 1, 3) := by decide +kernel
theorem rfdX7_init_4 : decode rfcX7_init 4 = .ok (.aload_n 0, 1) := by decide +kernel
theorem rfdX7_init_5 : decode rfcX7_init 5 = .ok (.sipush 286, 3) := by decide +kernel
theorem rfdX7_init_8 : decode rfcX7_init 8 = .ok (.newarray .int, 2) := by decide +kernel
theorem rfdX7_init_10 : decode rfcX7_init 10 = .ok (.putfield 7, 3) := by decide +kernel
theorem rfdX7_init_13 : decode rfcX7_init 13 = .ok (.aload_n 0, 1) := by decide +kernel
theorem rfdX7_init_14 : decode rfcX7_init 14 = .ok (.sipush 286, 3) := by decide +kernel
theorem rfdX7_init_17 : decode rfcX7_init 17 = .ok (.newarray .int, 2) := by decide +kernel
theorem rfdX7_init_19 : decode rfcX7_init 19 = .ok (.putfield 13, 3) := by decide +kernel
theorem rfdX7_init_22 : decode rfcX7_init 22 = .ok (.aload_n 0, 1) := by decide +kernel
theorem rfdX7_init_23 : decode rfcX7_init 23 = .ok (.sipush 1144, 3) := by decide +kernel
theorem rfdX7_init_26 : decode rfcX7_init 26 = .ok (.newarray .int, 2) := by decide +kernel
theorem rfdX7_init_28 : decode rfcX7_init 28 = .ok (.putfield 16, 3) := by decide +kernel
theorem rfdX7_init_31 : decode rfcX7_init 31 = .ok (.aload_n 0, 1) := by decide +kernel
theorem rfdX7_init_32 : decode rfcX7_init 32 = .ok (.sipush 286, 3) := by decide +kernel
theorem rfdX7_init_35 : decode rfcX7_init 35 = .ok (.newarray .int, 2) := by decide +kernel
theorem rfdX7_init_37 : decode rfcX7_init 37 = .ok (.putfield 19, 3) := by decide +kernel
theorem rfdX7_init_40 : decode rfcX7_init 40 = .ok (.aload_n 0, 1) := by decide +kernel
theorem rfdX7_init_41 : decode rfcX7_init 41 = .ok (.bipush 32, 2) := by decide +kernel
theorem rfdX7_init_43 : decode rfcX7_init 43 = .ok (.newarray .int, 2) := by decide +kernel
theorem rfdX7_init_45 : decode rfcX7_init 45 = .ok (.putfield 22, 3) := by decide +kernel
theorem rfdX7_init_48 : decode rfcX7_init 48 = .ok (.aload_n 0, 1) := by decide +kernel
theorem rfdX7_init_49 : decode rfcX7_init 49 = .ok (.bipush 80, 2) := by decide +kernel
theorem rfdX7_init_51 : decode rfcX7_init 51 = .ok (.newarray .int, 2) := by decide +kernel
theorem rfdX7_init_53 : decode rfcX7_init 53 = .ok (.putfield 25, 3) := by decide +kernel
theorem rfdX7_init_56 : decode rfcX7_init 56 = .ok (.aload_n 0, 1) := by decide +kernel
theorem rfdX7_init_57 : decode rfcX7_init 57 = .ok (.bipush 20, 2) := by decide +kernel
theorem rfdX7_init_59 : decode rfcX7_init 59 = .ok (.newarray .int, 2) := by decide +kernel
theorem rfdX7_init_61 : decode rfcX7_init 61 = .ok (.putfield 28, 3) := by decide +kernel
theorem rfdX7_init_64 : decode rfcX7_init 64 = .ok (.aload_n 0, 1) := by decide +kernel
theorem rfdX7_init_65 : decode rfcX7_init 65 = .ok (.bipush 20, 2) := by decide +kernel
theorem rfdX7_init_67 : decode rfcX7_init 67 = .ok (.newarray .int, 2) := by decide +kernel
theorem rfdX7_init_69 : decode rfcX7_init 69 = .ok (.putfield 31, 3) := by decide +kernel
theorem rfdX7_init_72 : decode rfcX7_init 72 = .ok (.aload_n 0, 1) := by decide +kernel
theorem rfdX7_init_73 : decode rfcX7_init 73 = .ok (.bipush 20, 2) := by decide +kernel
theorem rfdX7_init_75 : decode rfcX7_init 75 = .ok (.newarray .int, 2) := by decide +kernel
theorem rfdX7_init_77 : decode rfcX7_init 77 = .ok (.putfield 34, 3) := by decide +kernel
theorem rfdX7_init_80 : decode rfcX7_init 80 = .ok (.aload_n 0, 1) := by decide +kernel
theorem rfdX7_init_81 : decode rfcX7_init 81 = .ok (.getfield 7, 3) := by decide +kernel
theorem rfdX7_init_84 : decode rfcX7_init 84 = .ok (.iconst 1, 1) := by decide +kernel
theorem rfdX7_init_85 : decode rfcX7_init 85 = .ok (.iconst 3, 1) := by decide +kernel
theorem rfdX7_init_86 : decode rfcX7_init 86 = .ok (.iastore, 1) := by decide +kernel
theorem rfdX7_init_87 : decode rfcX7_init 87 = .ok (.iconst 0, 1) := by decide +kernel
theorem rfdX7_init_88 : decode rfcX7_init 88 = .ok (.istore_n 1, 1) := by decide +kernel
theorem rfdX7_init_89 : decode rfcX7_init 89 = .ok (.iload_n 1, 1) := by decide +kernel
theorem rfdX7_init_90 : decode rfcX7_init 90 = .ok (.bipush 10, 2) := by decide +kernel
theorem rfdX7_init_92 : decode rfcX7_init 92 = .ok (.if_icmp .ge 41, 3) := by decide +kernel
theorem rfdX7_init_95 : decode rfcX7_init 95 = .ok (.aload_n 0, 1) := by decide +kernel
theorem rfdX7_init_96 : decode rfcX7_init 96 = .ok (.getfield 7, 3) := by decide +kernel
theorem rfdX7_init_99 : decode rfcX7_init 99 = .ok (.iconst 2, 1) := by decide +kernel
theorem rfdX7_init_100 : decode rfcX7_init 100 = .ok (.iconst 2, 1) := by decide +kernel
theorem rfdX7_init_101 : decode rfcX7_init 101 = .ok (.iload_n 1, 1) := by decide +kernel
theorem rfdX7_init_102 : decode rfcX7_init 102 = .ok (.imul, 1) := by decide +kernel
theorem rfdX7_init_103 : decode rfcX7_init 103 = .ok (.iadd, 1) := by decide +kernel
theorem rfdX7_init_104 : decode rfcX7_init 104 = .ok (.iload_n 1, 1) := by decide +kernel
theorem rfdX7_init_105 : decode rfcX7_init 105 = .ok (.bipush 6, 2) := by decide +kernel
theorem rfdX7_init_107 : decode rfcX7_init 107 = .ok (.irem, 1) := by decide +kernel
theorem rfdX7_init_108 : decode rfcX7_init 108 = .ok (.iastore, 1) := by decide +kernel
theorem rfdX7_init_109 : decode rfcX7_init 109 = .ok (.aload_n 0, 1) := by decide +kernel
theorem rfdX7_init_110 : decode rfcX7_init 110 = .ok (.getfield 7, 3) := by decide +kernel
theorem rfdX7_init_113 : decode rfcX7_init 113 = .ok (.iconst 2, 1) := by decide +kernel
theorem rfdX7_init_114 : decode rfcX7_init 114 = .ok (.iconst 2, 1) := by decide +kernel
theorem rfdX7_init_115 : decode rfcX7_init 115 = .ok (.iload_n 1, 1) := by decide +kernel
theorem rfdX7_init_116 : decode rfcX7_init 116 = .ok (.imul, 1) := by decide +kernel
theorem rfdX7_init_117 : decode rfcX7_init 117 = .ok (.iadd, 1) := by decide +kernel
theorem rfdX7_init_118 : decode rfcX7_init 118 = .ok (.iconst 1, 1) := by decide +kernel
theorem rfdX7_init_119 : decode rfcX7_init 119 = .ok (.iadd, 1) := by decide +kernel
theorem rfdX7_init_120 : decode rfcX7_init 120 = .ok (.iload_n 1, 1) := by decide +kernel
theorem rfdX7_init_121 : decode rfcX7_init 121 = .ok (.iconst 1, 1) := by decide +kernel
theorem rfdX7_init_122 : decode rfcX7_init 122 = .ok (.iadd, 1) := by decide +kernel
theorem rfdX7_init_123 : decode rfcX7_init 123 = .ok (.bipush 6, 2) := by decide +kernel
theorem rfdX7_init_125 : decode rfcX7_init 125 = .ok (.irem, 1) := by decide +kernel
theorem rfdX7_init_126 : decode rfcX7_init 126 = .ok (.iastore, 1) := by decide +kernel
theorem rfdX7_init_127 : decode rfcX7_init 127 = .ok (.iinc 1 1, 3) := by decide +kernel
theorem rfdX7_init_130 : decode rfcX7_init 130 = .ok (.goto (-41), 3) := by decide +kernel
theorem rfdX7_init_133 : decode rfcX7_init 133 = .ok (.return_, 1) := by decide +kernel
theorem rfdX3_put_0 : decode rfcX3_put 0 = .ok (.iload_n 1, 1) := by decide +kernel
theorem rfdX3_put_1 : decode rfcX3_put 1 = .ok (.ifCond .lt 19, 3) := by decide +kernel
theorem rfdX3_put_4 : decode rfcX3_put 4 = .ok (.iload_n 1, 1) := by decide +kernel
theorem rfdX3_put_5 : decode rfcX3_put 5 = .ok (.aload_n 0, 1) := by decide +kernel
theorem rfdX3_put_6 : decode rfcX3_put 6 = .ok (.getfield 7, 3) := by decide +kernel
theorem rfdX3_put_9 : decode rfcX3_put 9 = .ok (.arraylength, 1) := by decide +kernel
theorem rfdX3_put_10 : decode rfcX3_put 10 = .ok (.if_icmp .ge 10, 3) := by decide +kernel
theorem rfdX3_put_13 : decode rfcX3_put 13 = .ok (.aload_n 0, 1) := by decide +kernel
theorem rfdX3_put_14 : decode rfcX3_put 14 = .ok (.getfield 7, 3) := by decide +kernel
theorem rfdX3_put_17 : decode rfcX3_put 17 = .ok (.iload_n 1, 1) := by decide +kernel
theorem rfdX3_put_18 : decode rfcX3_put 18 = .ok (.iload_n 2, 1) := by decide +kernel
theorem rfdX3_put_19 : decode rfcX3_put 19 = .ok (.iastore, 1) := by decide +kernel
theorem rfdX3_put_20 : decode rfcX3_put 20 = .ok (.return_, 1) := by decide +kernel
set_option maxRecDepth 100000 in
theorem rf_g_X4_init_X3_init : GoodIn rfwsX4_init rfwsX3_init := rf_goodIn_r _ [10, 11, 2, 3, 12, 13, 18] (by decide +kernel) (by decide +kernel)
set_option maxRecDepth 100000 in
theorem rf_g_X0_init_X3_init : GoodIn rfwsX0_init rfwsX3_init := rf_goodIn_r _ [13, 14, 2, 3, 15, 16, 21] (by decide +kernel) (by decide +kernel)
set_option maxRecDepth 100000 in
theorem rf_g_X1_init_X3_init : GoodIn rfwsX1_init rfwsX3_init := rf_goodIn_r _ [12, 13, 2, 3, 14, 15, 16] (by decide +kernel) (by decide +kernel)
set_option maxRecDepth 100000 in
theorem rf_g_X5_init_X3_init : GoodIn rfwsX5_init rfwsX3_init := rf_goodIn_r _ [11, 12, 2, 3, 13, 14, 15] (by decide +kernel) (by decide +kernel)
set_option maxRecDepth 100000 in
theorem rf_g_X6_init_X4_init : GoodIn rfwsX6_init rfwsX4_init := rf_goodIn_r _ [32, 33, 2, 3, 34, 25, 26, 35, 36, 37, 38, 39, 40, 41, 42, 43, 44, 45, 98, 79] (by decide +kernel) (by decide +kernel)
set_option maxRecDepth 100000 in
theorem rf_g_X6_init_X2_init : GoodIn rfwsX6_init rfwsX2_init := rf_goodIn_r _ [48, 49, 2, 3, 50, 88] (by decide +kernel) (by decide +kernel)
set_option maxRecDepth 100000 in
theorem rf_g_X6_init_X0_init : GoodIn rfwsX6_init rfwsX0_init := rf_goodIn_r _ [53, 54, 2, 3, 55, 56, 25, 26, 57, 58, 59, 60, 37, 38, 39, 40, 41, 89, 90, 91, 92, 98] (by decide +kernel) (by decide +kernel)
set_option maxRecDepth 100000 in
theorem rf_g_X6_init_X1_init : GoodIn rfwsX6_init rfwsX1_init := rf_goodIn_r _ [63, 64, 2, 3, 65, 25, 26, 66, 67, 68, 69, 37, 38, 39, 40, 41, 98, 93, 94, 95] (by decide +kernel) (by decide +kernel)
set_option maxRecDepth 100000 in
theorem rf_g_X6_init_X5_init : GoodIn rfwsX6_init rfwsX5_init := rf_goodIn_r _ [72, 73, 2, 3, 74, 25, 26, 75, 76, 77, 37, 38, 39, 40, 41, 98, 96, 97] (by decide +kernel) (by decide +kernel)
set_option maxRecDepth 100000 in
theorem rf_g_X6_init_X3_init : GoodIn rfwsX6_init rfwsX3_init := rf_goodIn_r _ [38, 39, 2, 3, 40, 41, 98] (by decide +kernel) (by decide +kernel)
set_option maxRecDepth 100000 in
theorem rf_g_X4_init_X3_put : GoodIn rfwsX4_init (wsV rfRX4 20 rfRX3 rfyX3_put rfwsX3_put) := rf_goodIn_r _ [14, 15, 16, 6, 17, 13, 18] (by decide +kernel) (by decide +kernel)
set_option maxRecDepth 100000 in
theorem rf_g_law_X6_init : GoodIn tables_1 rfwsX6_init := rf_goodIn_r _ [15, 16, 17, 18, 19, 20, 2, 110, 44, 45, 4, 111, 54, 55, 5, 112, 75, 76, 6, 113, 93, 94, 7, 114, 108, 26, 3, 115, 116, 117, 21, 22, 23, 24, 25, 40, 27, 28, 29, 30, 35, 31, 36, 37, 38, 39, 46, 47, 48, 49, 50, 56, 57, 58, 59, 62, 60, 63, 64, 65, 61, 77, 78, 79, 80, 81, 83, 84, 85, 82, 95, 96, 97, 98, 99, 101, 102, 100, 109, 41, 118, 120, 122, 124, 126, 128, 130, 132, 51, 66, 68, 70, 72, 86, 88, 90, 103, 105, 32] (by decide +kernel) (by decide +kernel)
set_option maxRecDepth 100000 in
theorem rf_g_law_X7_init : GoodIn tables_1 rfwsX7_init := rf_goodIn_r _ [563, 564, 17, 18, 35, 565, 566, 567, 569, 571, 572, 576, 577, 578, 579, 581, 583, 585, 587, 589, 591, 593, 595, 597, 599, 601, 603, 605] (by decide +kernel) (by decide +kernel)
theorem rf_yd_X0_init : rfyX0_init.cls ≠ "java/lang/invoke/MethodHandle" ∧ rfyX0_init.cls ≠ "java/lang/invoke/VarHandle" ∧ (parseMethodDescriptor rfyX0_init.desc).map (fun d => d.parameters.length) = some 1 := by decide +kernel
theorem rf_yd_X1_init : rfyX1_init.cls ≠ "java/lang/invoke/MethodHandle" ∧ rfyX1_init.cls ≠ "java/lang/invoke/VarHandle" ∧ (parseMethodDescriptor rfyX1_init.desc).map (fun d => d.parameters.length) = some 0 := by decide +kernel
theorem rf_yd_X2_init : rfyX2_init.cls ≠ "java/lang/invoke/MethodHandle" ∧ rfyX2_init.cls ≠ "java/lang/invoke/VarHandle" ∧ (parseMethodDescriptor rfyX2_init.desc).map (fun d => d.parameters.length) = some 1 := by decide +kernel
theorem rf_yd_X3_init : rfyX3_init.cls ≠ "java/lang/invoke/MethodHandle" ∧ rfyX3_init.cls ≠ "java/lang/invoke/VarHandle" ∧ (parseMethodDescriptor rfyX3_init.desc).map (fun d => d.parameters.length) = some 1 := by decide +kernel
theorem rf_yd_X4_init : rfyX4_init.cls ≠ "java/lang/invoke/MethodHandle" ∧ rfyX4_init.cls ≠ "java/lang/invoke/VarHandle" ∧ (parseMethodDescriptor rfyX4_init.desc).map (fun d => d.parameters.length) = some 0 := by decide +kernel
theorem rf_yd_X5_init : rfyX5_init.cls ≠ "java/lang/invoke/MethodHandle" ∧ rfyX5_init.cls ≠ "java/lang/invoke/VarHandle" ∧ (parseMethodDescriptor rfyX5_init.desc).map (fun d => d.parameters.length) = some 0 := by decide +kernel
theorem rf_yd_X6_init : rfyX6_init.cls ≠ "java/lang/invoke/MethodHandle" ∧ rfyX6_init.cls ≠ "java/lang/invoke/VarHandle" ∧ (parseMethodDescriptor rfyX6_init.desc).map (fun d => d.parameters.length) = some 0 := by decide +kernel
theorem rf_yd_X7_init : rfyX7_init.cls ≠ "java/lang/invoke/MethodHandle" ∧ rfyX7_init.cls ≠ "java/lang/invoke/VarHandle" ∧ (parseMethodDescriptor rfyX7_init.desc).map (fun d => d.parameters.length) = some 0 := by decide +kernel
theorem rf_yd_X3_put : rfyX3_put.cls = rfRX3 ∧ rfyX3_put.cls ≠ "java/lang/invoke/MethodHandle" ∧ rfyX3_put.cls ≠ "java/lang/invoke/VarHandle" ∧ (parseMethodDescriptor rfyX3_put.desc).map (fun d => d.parameters.length) = some 2 := by decide +kernel
set_option maxRecDepth 100000 in
theorem rf_in_X0_init_X0 : ∀ w ∈ rfwsX00, w ∈ rfwsX0_init := fun w h => (rf_goodIn_r (big := rfwsX0_init) rfwsX00 [17, 18, 19, 20] (by decide +kernel) (by decide +kernel) w h).1
set_option maxRecDepth 100000 in
theorem rf_in_X0_init_X3 : ∀ w ∈ rfwsX30, w ∈ rfwsX0_init := fun w h => (rf_goodIn_r (big := rfwsX0_init) rfwsX30 [21] (by decide +kernel) (by decide +kernel) w h).1
set_option maxRecDepth 100000 in
theorem rf_in_X1_init_X1 : ∀ w ∈ rfwsX10, w ∈ rfwsX1_init := fun w h => (rf_goodIn_r (big := rfwsX1_init) rfwsX10 [17, 18, 19] (by decide +kernel) (by decide +kernel) w h).1
set_option maxRecDepth 100000 in
theorem rf_in_X1_init_X3 : ∀ w ∈ rfwsX30, w ∈ rfwsX1_init := fun w h => (rf_goodIn_r (big := rfwsX1_init) rfwsX30 [16] (by decide +kernel) (by decide +kernel) w h).1
set_option maxRecDepth 100000 in
theorem rf_in_X2_init_X2 : ∀ w ∈ rfwsX20, w ∈ rfwsX2_init := fun w h => (rf_goodIn_r (big := rfwsX2_init) rfwsX20 [5] (by decide +kernel) (by decide +kernel) w h).1
set_option maxRecDepth 100000 in
theorem rf_in_X3_init_X3 : ∀ w ∈ rfwsX30, w ∈ rfwsX3_init := fun w h => (rf_goodIn_r (big := rfwsX3_init) rfwsX30 [6] (by decide +kernel) (by decide +kernel) w h).1
set_option maxRecDepth 100000 in
theorem rf_in_X4_init_X3 : ∀ w ∈ rfwsX30, w ∈ rfwsX4_init := fun w h => (rf_goodIn_r (big := rfwsX4_init) rfwsX30 [18] (by decide +kernel) (by decide +kernel) w h).1
set_option maxRecDepth 100000 in
theorem rf_in_X4_init_X4 : ∀ w ∈ rfwsX40, w ∈ rfwsX4_init := fun w h => (rf_goodIn_r (big := rfwsX4_init) rfwsX40 [19] (by decide +kernel) (by decide +kernel) w h).1
set_option maxRecDepth 100000 in
theorem rf_in_X5_init_X3 : ∀ w ∈ rfwsX30, w ∈ rfwsX5_init := fun w h => (rf_goodIn_r (big := rfwsX5_init) rfwsX30 [15] (by decide +kernel) (by decide +kernel) w h).1
set_option maxRecDepth 100000 in
theorem rf_in_X5_init_X5 : ∀ w ∈ rfwsX50, w ∈ rfwsX5_init := fun w h => (rf_goodIn_r (big := rfwsX5_init) rfwsX50 [16, 17] (by decide +kernel) (by decide +kernel) w h).1
set_option maxRecDepth 100000 in
theorem rf_in_X6_init_X0 : ∀ w ∈ rfwsX00, w ∈ rfwsX6_init := fun w h => (rf_goodIn_r (big := rfwsX6_init) rfwsX00 [89, 90, 91, 92] (by decide +kernel) (by decide +kernel) w h).1
set_option maxRecDepth 100000 in
theorem rf_in_X6_init_X1 : ∀ w ∈ rfwsX10, w ∈ rfwsX6_init := fun w h => (rf_goodIn_r (big := rfwsX6_init) rfwsX10 [93, 94, 95] (by decide +kernel) (by decide +kernel) w h).1
set_option maxRecDepth 100000 in
theorem rf_in_X6_init_X2 : ∀ w ∈ rfwsX20, w ∈ rfwsX6_init := fun w h => (rf_goodIn_r (big := rfwsX6_init) rfwsX20 [88] (by decide +kernel) (by decide +kernel) w h).1
set_option maxRecDepth 100000 in
theorem rf_in_X6_init_X3 : ∀ w ∈ rfwsX30, w ∈ rfwsX6_init := fun w h => (rf_goodIn_r (big := rfwsX6_init) rfwsX30 [98] (by decide +kernel) (by decide +kernel) w h).1
set_option maxRecDepth 100000 in
theorem rf_in_X6_init_X4 : ∀ w ∈ rfwsX40, w ∈ rfwsX6_init := fun w h => (rf_goodIn_r (big := rfwsX6_init) rfwsX40 [79] (by decide +kernel) (by decide +kernel) w h).1
set_option maxRecDepth 100000 in
theorem rf_in_X6_init_X5 : ∀ w ∈ rfwsX50, w ∈ rfwsX6_init := fun w h => (rf_goodIn_r (big := rfwsX6_init) rfwsX50 [96, 97] (by decide +kernel) (by decide +kernel) w h).1
set_option maxRecDepth 100000 in
theorem rf_in_X6_init_X6 : ∀ w ∈ rfwsX60, w ∈ rfwsX6_init := fun w h => (rf_goodIn_r (big := rfwsX6_init) rfwsX60 [80, 81, 82, 83, 84, 85, 86, 87] (by decide +kernel) (by decide +kernel) w h).1
set_option maxRecDepth 100000 in
theorem rf_in_X7_init_X7 : ∀ w ∈ rfwsX70, w ∈ rfwsX7_init := fun w h => (rf_goodIn_r (big := rfwsX7_init) rfwsX70 [14, 15, 16, 17, 18, 19, 20, 21, 22, 23, 24, 25, 26, 27] (by decide +kernel) (by decide +kernel) w h).1
set_option maxRecDepth 100000 in
theorem rf_in_X3_put_X3 : ∀ w ∈ rfwsX30, w ∈ rfwsX3_put := fun w h => (rf_goodIn_r (big := rfwsX3_put) rfwsX30 [2] (by decide +kernel) (by decide +kernel) w h).1
set_option maxRecDepth 100000 in
theorem rf_in_law_X0 : ∀ w ∈ rfwsX00, w ∈ tables_1 := fun w h => (rf_goodIn_r (big := tables_1) rfwsX00 [66, 68, 70, 72] (by decide +kernel) (by decide +kernel) w h).1
set_option maxRecDepth 100000 in
theorem rf_in_law_X1 : ∀ w ∈ rfwsX10, w ∈ tables_1 := fun w h => (rf_goodIn_r (big := tables_1) rfwsX10 [86, 88, 90] (by decide +kernel) (by decide +kernel) w h).1
set_option maxRecDepth 100000 in
theorem rf_in_law_X2 : ∀ w ∈ rfwsX20, w ∈ tables_1 := fun w h => (rf_goodIn_r (big := tables_1) rfwsX20 [51] (by decide +kernel) (by decide +kernel) w h).1
set_option maxRecDepth 100000 in
theorem rf_in_law_X3 : ∀ w ∈ rfwsX30, w ∈ tables_1 := fun w h => (rf_goodIn_r (big := tables_1) rfwsX30 [32] (by decide +kernel) (by decide +kernel) w h).1
set_option maxRecDepth 100000 in
theorem rf_in_law_X4 : ∀ w ∈ rfwsX40, w ∈ tables_1 := fun w h => (rf_goodIn_r (big := tables_1) rfwsX40 [41] (by decide +kernel) (by decide +kernel) w h).1
set_option maxRecDepth 100000 in
theorem rf_in_law_X5 : ∀ w ∈ rfwsX50, w ∈ tables_1 := fun w h => (rf_goodIn_r (big := tables_1) rfwsX50 [103, 105] (by decide +kernel) (by decide +kernel) w h).1
set_option maxRecDepth 100000 in
theorem rf_in_law_X6 : ∀ w ∈ rfwsX60, w ∈ tables_1 := fun w h => (rf_goodIn_r (big := tables_1) rfwsX60 [118, 120, 122, 124, 126, 128, 130, 132] (by decide +kernel) (by decide +kernel) w h).1
set_option maxRecDepth 100000 in
theorem rf_in_law_X7 : ∀ w ∈ rfwsX70, w ∈ tables_1 := fun w h => (rf_goodIn_r (big := tables_1) rfwsX70 [579, 581, 583, 585, 587, 589, 591, 593, 595, 597, 599, 601, 603, 605] (by decide +kernel) (by decide +kernel) w h).1
