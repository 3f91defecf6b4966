/-! ===== BEGIN printed: names, fields, word lists, decode rows ===== -/
def RX0 : String := "PinnedPantry$Row"
def TX0 : u_T := fun k => match k with
  | 0 => ("PinnedPantry$Row", "kinds", "[I", true)
  | _ => ("PinnedPantry$Row", "length", "I", false)
def tyX0 : Nat → FieldType := fun k => match k with
  | 0 => .array .int
  | _ => .int
abbrev wsX00 : List Cond := u_ws RX0 TX0 2
theorem nmX0 : ∀ a, a < 2 → ∀ b, b < 2 → a ≠ b → (TX0 a).2.1 ≠ (TX0 b).2.1 := by decide +kernel
theorem tyX0_ok : ∀ k, k < 2 → parseFieldDescriptor (TX0 k).2.2.1 = some (tyX0 k) := by decide +kernel
abbrev cX0_init : ByteArray := prog_2_method_1_code
def yX0_init : MethodName := ⟨RX0, "<init>", "()V"⟩
abbrev cX0_become : ByteArray := prog_2_method_2_code
def yX0_become : MethodName := ⟨RX0, "become", "(LPinnedPantry$Row;)V"⟩
abbrev cX0_at : ByteArray := prog_2_method_3_code
def yX0_at : MethodName := ⟨RX0, "at", "(I)I"⟩
abbrev cX0_placeOf : ByteArray := prog_2_method_4_code
def yX0_placeOf : MethodName := ⟨RX0, "placeOf", "(I)I"⟩
abbrev cX0_has : ByteArray := prog_2_method_5_code
def yX0_has : MethodName := ⟨RX0, "has", "(I)Z"⟩
abbrev cX0_append : ByteArray := prog_2_method_6_code
def yX0_append : MethodName := ⟨RX0, "append", "(I)V"⟩
abbrev cX0_takeOut : ByteArray := prog_2_method_7_code
def yX0_takeOut : MethodName := ⟨RX0, "takeOut", "(I)V"⟩
abbrev cX0_forgetEldest : ByteArray := prog_2_method_8_code
def yX0_forgetEldest : MethodName := ⟨RX0, "forgetEldest", "(I)V"⟩
def RX1 : String := "PinnedPantry$Store"
def TX1 : u_T := fun k => match k with
  | 0 => ("PinnedPantry$Store", "newRow", "LPinnedPantry$Row;", true)
  | 1 => ("PinnedPantry$Store", "triedRow", "LPinnedPantry$Row;", true)
  | 2 => ("PinnedPantry$Store", "newList", "LPinnedPantry$Row;", true)
  | 3 => ("PinnedPantry$Store", "triedList", "LPinnedPantry$Row;", true)
  | 4 => ("PinnedPantry$Store", "touches", "LPinnedPantry$Table;", true)
  | 5 => ("PinnedPantry$Store", "pins", "LPinnedPantry$Table;", true)
  | 6 => ("PinnedPantry$Store", "fetches", "LPinnedPantry$Table;", true)
  | 7 => ("PinnedPantry$Store", "places", "I", false)
  | 8 => ("PinnedPantry$Store", "goal", "I", false)
  | 9 => ("PinnedPantry$Store", "hits", "I", false)
  | 10 => ("PinnedPantry$Store", "misses", "I", false)
  | 11 => ("PinnedPantry$Store", "rememberedMisses", "I", false)
  | _ => ("PinnedPantry$Store", "looks", "I", false)
def tyX1 : Nat → FieldType := fun k => match k with
  | 0 => .object "PinnedPantry$Row"
  | 1 => .object "PinnedPantry$Row"
  | 2 => .object "PinnedPantry$Row"
  | 3 => .object "PinnedPantry$Row"
  | 4 => .object "PinnedPantry$Table"
  | 5 => .object "PinnedPantry$Table"
  | 6 => .object "PinnedPantry$Table"
  | 7 => .int
  | 8 => .int
  | 9 => .int
  | 10 => .int
  | 11 => .int
  | _ => .int
abbrev wsX10 : List Cond := u_ws RX1 TX1 13
theorem nmX1 : ∀ a, a < 13 → ∀ b, b < 13 → a ≠ b → (TX1 a).2.1 ≠ (TX1 b).2.1 := by decide +kernel
theorem tyX1_ok : ∀ k, k < 13 → parseFieldDescriptor (TX1 k).2.2.1 = some (tyX1 k) := by decide +kernel
abbrev cX1_init : ByteArray := prog_3_method_1_code
def yX1_init : MethodName := ⟨RX1, "<init>", "()V"⟩
abbrev cX1_become : ByteArray := prog_3_method_2_code
def yX1_become : MethodName := ⟨RX1, "become", "(LPinnedPantry$Store;)V"⟩
abbrev cX1_rowOf : ByteArray := prog_3_method_3_code
def yX1_rowOf : MethodName := ⟨RX1, "rowOf", "(I)LPinnedPantry$Row;"⟩
abbrev cX1_listOf : ByteArray := prog_3_method_4_code
def yX1_listOf : MethodName := ⟨RX1, "listOf", "(I)LPinnedPantry$Row;"⟩
abbrev cX1_hasJar : ByteArray := prog_3_method_5_code
def yX1_hasJar : MethodName := ⟨RX1, "hasJar", "(I)Z"⟩
abbrev cX1_jars : ByteArray := prog_3_method_6_code
def yX1_jars : MethodName := ⟨RX1, "jars", "()I"⟩
abbrev cX1_pinnedJars : ByteArray := prog_3_method_7_code
def yX1_pinnedJars : MethodName := ⟨RX1, "pinnedJars", "()I"⟩
abbrev cX1_pinnedOn : ByteArray := prog_3_method_8_code
def yX1_pinnedOn : MethodName := ⟨RX1, "pinnedOn", "(LPinnedPantry$Row;)I"⟩
abbrev cX1_forecast : ByteArray := prog_3_method_9_code
def yX1_forecast : MethodName := ⟨RX1, "forecast", "(I)I"⟩
abbrev cX1_bring : ByteArray := prog_3_method_10_code
def yX1_bring : MethodName := ⟨RX1, "bring", "(I)I"⟩
abbrev cX1_bringSeries : ByteArray := prog_3_method_11_code
def yX1_bringSeries : MethodName := ⟨RX1, "bringSeries", "(III)I"⟩
abbrev cX1_recall : ByteArray := prog_3_method_12_code
def yX1_recall : MethodName := ⟨RX1, "recall", "(II)V"⟩
abbrev cX1_turn : ByteArray := prog_3_method_13_code
def yX1_turn : MethodName := ⟨RX1, "turn", "(LPinnedPantry$Row;LPinnedPantry$Row;)I"⟩
abbrev cX1_placeNewJar : ByteArray := prog_3_method_14_code
def yX1_placeNewJar : MethodName := ⟨RX1, "placeNewJar", "(ILPinnedPantry$Row;)V"⟩
abbrev cX1_sweep : ByteArray := prog_3_method_15_code
def yX1_sweep : MethodName := ⟨RX1, "sweep", "()I"⟩
abbrev cX1_givingShelf : ByteArray := prog_3_method_16_code
def yX1_givingShelf : MethodName := ⟨RX1, "givingShelf", "()I"⟩
abbrev cX1_changePins : ByteArray := prog_3_method_17_code
def yX1_changePins : MethodName := ⟨RX1, "changePins", "(II)I"⟩
abbrev cX1_remove : ByteArray := prog_3_method_18_code
def yX1_remove : MethodName := ⟨RX1, "remove", "(I)I"⟩
abbrev cX1_resize : ByteArray := prog_3_method_19_code
def yX1_resize : MethodName := ⟨RX1, "resize", "(I)V"⟩
abbrev cX1_detail : ByteArray := prog_3_method_20_code
def yX1_detail : MethodName := ⟨RX1, "detail", "(II)I"⟩
abbrev cX1_tally : ByteArray := prog_3_method_21_code
def yX1_tally : MethodName := ⟨RX1, "tally", "(I)I"⟩
abbrev cX1_fetchesOfAll : ByteArray := prog_3_method_22_code
def yX1_fetchesOfAll : MethodName := ⟨RX1, "fetchesOfAll", "()I"⟩
def RX2 : String := "PinnedPantry$Table"
def TX2 : u_T := fun k => match k with
  | _ => ("PinnedPantry$Table", "numbers", "[I", true)
def tyX2 : Nat → FieldType := fun k => match k with
  | _ => .array .int
abbrev wsX20 : List Cond := u_ws RX2 TX2 1
theorem nmX2 : ∀ a, a < 1 → ∀ b, b < 1 → a ≠ b → (TX2 a).2.1 ≠ (TX2 b).2.1 := by decide +kernel
theorem tyX2_ok : ∀ k, k < 1 → parseFieldDescriptor (TX2 k).2.2.1 = some (tyX2 k) := by decide +kernel
abbrev cX2_init : ByteArray := prog_4_method_1_code
def yX2_init : MethodName := ⟨RX2, "<init>", "()V"⟩
abbrev cX2_become : ByteArray := prog_4_method_2_code
def yX2_become : MethodName := ⟨RX2, "become", "(LPinnedPantry$Table;)V"⟩
abbrev cX2_of : ByteArray := prog_4_method_3_code
def yX2_of : MethodName := ⟨RX2, "of", "(I)I"⟩
abbrev cX2_put : ByteArray := prog_4_method_4_code
def yX2_put : MethodName := ⟨RX2, "put", "(II)V"⟩
def RX3 : String := "PinnedPantry"
def TX3 : u_T := fun k => match k with
  | 0 => ("PinnedPantry", "store", "LPinnedPantry$Store;", true)
  | _ => ("PinnedPantry", "rehearsal", "LPinnedPantry$Store;", true)
def tyX3 : Nat → FieldType := fun k => match k with
  | 0 => .object "PinnedPantry$Store"
  | _ => .object "PinnedPantry$Store"
abbrev wsX30 : List Cond := u_ws RX3 TX3 2
theorem nmX3 : ∀ a, a < 2 → ∀ b, b < 2 → a ≠ b → (TX3 a).2.1 ≠ (TX3 b).2.1 := by decide +kernel
theorem tyX3_ok : ∀ k, k < 2 → parseFieldDescriptor (TX3 k).2.2.1 = some (tyX3 k) := by decide +kernel
abbrev cX3_init : ByteArray := prog_1_method_1_code
def yX3_init : MethodName := ⟨RX3, "<init>", "()V"⟩
abbrev cX3_fetch : ByteArray := prog_1_method_2_code
def yX3_fetch : MethodName := ⟨RX3, "fetch", "(I)I"⟩
abbrev cX3_fetchAll : ByteArray := prog_1_method_3_code
def yX3_fetchAll : MethodName := ⟨RX3, "fetchAll", "(III)I"⟩
abbrev cX3_pin : ByteArray := prog_1_method_4_code
def yX3_pin : MethodName := ⟨RX3, "pin", "(I)I"⟩
abbrev cX3_unpin : ByteArray := prog_1_method_5_code
def yX3_unpin : MethodName := ⟨RX3, "unpin", "(I)I"⟩
abbrev cX3_eat : ByteArray := prog_1_method_6_code
def yX3_eat : MethodName := ⟨RX3, "eat", "(I)I"⟩
abbrev cX3_setPlaces : ByteArray := prog_1_method_7_code
def yX3_setPlaces : MethodName := ⟨RX3, "setPlaces", "(I)I"⟩
abbrev cX3_setGoal : ByteArray := prog_1_method_8_code
def yX3_setGoal : MethodName := ⟨RX3, "setGoal", "(I)I"⟩
abbrev cX3_jar : ByteArray := prog_1_method_9_code
def yX3_jar : MethodName := ⟨RX3, "jar", "(II)I"⟩
abbrev cX3_shelf : ByteArray := prog_1_method_10_code
def yX3_shelf : MethodName := ⟨RX3, "shelf", "(II)I"⟩
abbrev cX3_ghost : ByteArray := prog_1_method_11_code
def yX3_ghost : MethodName := ⟨RX3, "ghost", "(II)I"⟩
abbrev cX3_count : ByteArray := prog_1_method_12_code
def yX3_count : MethodName := ⟨RX3, "count", "(I)I"⟩
abbrev cX3_next : ByteArray := prog_1_method_13_code
def yX3_next : MethodName := ⟨RX3, "next", "()I"⟩
abbrev cX3_mean : ByteArray := prog_1_method_17_code
def yX3_mean : MethodName := ⟨RX3, "mean", "()D"⟩
abbrev cX3_requireKind : ByteArray := prog_1_method_19_code
def yX3_requireKind : MethodName := ⟨RX3, "requireKind", "(I)V"⟩
abbrev cX3_requireSeries : ByteArray := prog_1_method_20_code
def yX3_requireSeries : MethodName := ⟨RX3, "requireSeries", "(III)V"⟩
abbrev cX3_requireShelf : ByteArray := prog_1_method_21_code
def yX3_requireShelf : MethodName := ⟨RX3, "requireShelf", "(I)V"⟩
abbrev cX3_requireAt : ByteArray := prog_1_method_22_code
def yX3_requireAt : MethodName := ⟨RX3, "requireAt", "(LPinnedPantry$Row;I)I"⟩
abbrev cX3_requireJar : ByteArray := prog_1_method_23_code
def yX3_requireJar : MethodName := ⟨RX3, "requireJar", "(I)V"⟩
def RX4 : String := "PinnedPantryLaw$Jar"
def TX4 : u_T := fun k => match k with
  | 0 => ("PinnedPantryLaw$Jar", "kind", "I", true)
  | 1 => ("PinnedPantryLaw$Jar", "isTouched", "Z", false)
  | 2 => ("PinnedPantryLaw$Jar", "pins", "I", false)
  | _ => ("PinnedPantryLaw$Jar", "fetched", "I", false)
def tyX4 : Nat → FieldType := fun k => match k with
  | 0 => .int
  | 1 => .boolean
  | 2 => .int
  | _ => .int
abbrev wsX40 : List Cond := u_ws RX4 TX4 4
theorem nmX4 : ∀ a, a < 4 → ∀ b, b < 4 → a ≠ b → (TX4 a).2.1 ≠ (TX4 b).2.1 := by decide +kernel
theorem tyX4_ok : ∀ k, k < 4 → parseFieldDescriptor (TX4 k).2.2.1 = some (tyX4 k) := by decide +kernel
abbrev cX4_init : ByteArray := prog_6_method_1_code
def yX4_init : MethodName := ⟨RX4, "<init>", "(I)V"⟩
def RX5 : String := "PinnedPantryLaw$Sim"
def TX5 : u_T := fun k => match k with
  | 0 => ("PinnedPantryLaw$Sim", "places", "I", false)
  | 1 => ("PinnedPantryLaw$Sim", "goal", "I", false)
  | 2 => ("PinnedPantryLaw$Sim", "hits", "I", false)
  | 3 => ("PinnedPantryLaw$Sim", "misses", "I", false)
  | 4 => ("PinnedPantryLaw$Sim", "remembered", "I", false)
  | 5 => ("PinnedPantryLaw$Sim", "looked", "I", false)
  | 6 => ("PinnedPantryLaw$Sim", "shelves", "[[LPinnedPantryLaw$Jar;", false)
  | _ => ("PinnedPantryLaw$Sim", "lists", "[[I", false)
def tyX5 : Nat → FieldType := fun k => match k with
  | 0 => .int
  | 1 => .int
  | 2 => .int
  | 3 => .int
  | 4 => .int
  | 5 => .int
  | 6 => .array (.array (.object "PinnedPantryLaw$Jar"))
  | _ => .array (.array .int)
abbrev wsX50 : List Cond := u_ws RX5 TX5 8
theorem nmX5 : ∀ a, a < 8 → ∀ b, b < 8 → a ≠ b → (TX5 a).2.1 ≠ (TX5 b).2.1 := by decide +kernel
theorem tyX5_ok : ∀ k, k < 8 → parseFieldDescriptor (TX5 k).2.2.1 = some (tyX5 k) := by decide +kernel
abbrev cX5_init : ByteArray := prog_7_method_1_code
def yX5_init : MethodName := ⟨RX5, "<init>", "()V"⟩
abbrev cX5_all : ByteArray := prog_7_method_3_code
def yX5_all : MethodName := ⟨RX5, "all", "()I"⟩
abbrev cX5_pinned : ByteArray := prog_7_method_4_code
def yX5_pinned : MethodName := ⟨RX5, "pinned", "()I"⟩
abbrev cX5_free : ByteArray := prog_7_method_5_code
def yX5_free : MethodName := ⟨RX5, "free", "(I)I"⟩
abbrev cX5_find : ByteArray := prog_7_method_6_code
def yX5_find : MethodName := ⟨RX5, "find", "(I)LPinnedPantryLaw$Jar;"⟩
abbrev cX5_list : ByteArray := prog_7_method_7_code
def yX5_list : MethodName := ⟨RX5, "list", "(I)[I"⟩
abbrev cX5_sweep : ByteArray := prog_7_method_8_code
def yX5_sweep : MethodName := ⟨RX5, "sweep", "()I"⟩
abbrev cX5_fetch : ByteArray := prog_7_method_9_code
def yX5_fetch : MethodName := ⟨RX5, "fetch", "(I)I"⟩
abbrev cX5_fetchAll : ByteArray := prog_7_method_10_code
def yX5_fetchAll : MethodName := ⟨RX5, "fetchAll", "(III)I"⟩
abbrev cX5_setPlaces : ByteArray := prog_7_method_11_code
def yX5_setPlaces : MethodName := ⟨RX5, "setPlaces", "(I)V"⟩
abbrev cX5_isSame : ByteArray := prog_7_method_12_code
def yX5_isSame : MethodName := ⟨RX5, "isSame", "(LPinnedPantry;)Z"⟩
def RX6 : String := "PinnedPantryModel"
def TX6 : u_T := fun k => match k with
  | _ => ("", "", "", false)
def tyX6 : Nat → FieldType := fun k => match k with
  | _ => .int
abbrev wsX60 : List Cond := u_ws RX6 TX6 0
theorem nmX6 : ∀ a, a < 0 → ∀ b, b < 0 → a ≠ b → (TX6 a).2.1 ≠ (TX6 b).2.1 := by decide +kernel
theorem tyX6_ok : ∀ k, k < 0 → parseFieldDescriptor (TX6 k).2.2.1 = some (tyX6 k) := by decide +kernel
def RJ9 : String := "java/lang/Math"
def TJ9 : u_T := fun k => match k with
  | _ => ("", "", "", false)
def tyJ9 : Nat → FieldType := fun k => match k with
  | _ => .int
theorem nmJ9 : ∀ a, a < 0 → ∀ b, b < 0 → a ≠ b → (TJ9 a).2.1 ≠ (TJ9 b).2.1 := by decide +kernel
theorem tyJ9_ok : ∀ k, k < 0 → parseFieldDescriptor (TJ9 k).2.2.1 = some (tyJ9 k) := by decide +kernel
abbrev cJ9_max_7cf53 : ByteArray := prog_13_method_65_code
def yJ9_max_7cf53 : MethodName := ⟨RJ9, "max", "(II)I"⟩
abbrev cJ9_min_7cf53 : ByteArray := prog_13_method_69_code
def yJ9_min_7cf53 : MethodName := ⟨RJ9, "min", "(II)I"⟩
def RJ0 : String := "java/lang/String"
def TJ0 : u_T := fun k => match k with
  | _ => ("", "", "", false)
def tyJ0 : Nat → FieldType := fun k => match k with
  | _ => .int
theorem nmJ0 : ∀ a, a < 0 → ∀ b, b < 0 → a ≠ b → (TJ0 a).2.1 ≠ (TJ0 b).2.1 := by decide +kernel
theorem tyJ0_ok : ∀ k, k < 0 → parseFieldDescriptor (TJ0 k).2.2.1 = some (tyJ0 k) := by decide +kernel
def RL : String := "PinnedPantryLaw"
abbrev cL_below : ByteArray := method_2_code
def yL_below : MethodName := ⟨RL, "below", "(II)I"⟩
abbrev cL_cell : ByteArray := method_3_code
def yL_cell : MethodName := ⟨RL, "cell", "([II)I"⟩
abbrev cL_with : ByteArray := method_4_code
def yL_with : MethodName := ⟨RL, "with", "([LPinnedPantryLaw$Jar;LPinnedPantryLaw$Jar;)[LPinnedPantryLaw$Jar;"⟩
abbrev cL_without : ByteArray := method_5_code
def yL_without : MethodName := ⟨RL, "without", "([LPinnedPantryLaw$Jar;I)[LPinnedPantryLaw$Jar;"⟩
abbrev cL_with_ : ByteArray := method_6_code
def yL_with_ : MethodName := ⟨RL, "with", "([II)[I"⟩
abbrev cL_without_ : ByteArray := method_7_code
def yL_without_ : MethodName := ⟨RL, "without", "([II)[I"⟩
abbrev cL_fetch : ByteArray := method_8_code
def yL_fetch : MethodName := ⟨RL, "fetch", "(LPinnedPantry;I)I"⟩
abbrev cL_act : ByteArray := method_9_code
def yL_act : MethodName := ⟨RL, "act", "(LPinnedPantry;LPinnedPantryLaw$Sim;I)Z"⟩
abbrev cL_build : ByteArray := method_10_code
def yL_build : MethodName := ⟨RL, "build", "(LPinnedPantry;[I)LPinnedPantryLaw$Sim;"⟩
abbrev cL_law : ByteArray := code
def yL_law : MethodName := ⟨RL, "law", "([I)Z"⟩
def wsL_law0_r1 : List Cond := [Cond.classLink RL 12 RX3, Cond.instantiable RX3 2, Cond.initialized RX3, Cond.arrayClass .boolean, Cond.methodLink RL 92 yX3_init, Cond.instanceMethod yX3_init, Cond.code yX3_init cX3_init 1 none, Cond.methodLink RX3 1 objectInit, Cond.instanceMethod objectInit, Cond.code objectInit ⟨#[0xb1]⟩ 1 none, Cond.classLink RX3 7 RX1, Cond.instantiable RX1 13, Cond.initialized RX1, Cond.fieldLink RX3 10 "PinnedPantry" "store" "LPinnedPantry$Store;", Cond.fieldLink RX3 16 "PinnedPantry" "rehearsal" "LPinnedPantry$Store;", Cond.methodLink RX3 9 yX1_init, Cond.instanceMethod yX1_init, Cond.code yX1_init cX1_init 1 none, Cond.methodLink RX1 3 objectInit, Cond.classLink RX1 9 RX0, Cond.instantiable RX0 2, Cond.initialized RX0, Cond.fieldLink RX1 12 "PinnedPantry$Store" "newRow" "LPinnedPantry$Row;", Cond.fieldLink RX1 18 "PinnedPantry$Store" "triedRow" "LPinnedPantry$Row;"]
def wsL_law0_r2 : List Cond := [Cond.fieldLink RX1 21 "PinnedPantry$Store" "newList" "LPinnedPantry$Row;", Cond.fieldLink RX1 24 "PinnedPantry$Store" "triedList" "LPinnedPantry$Row;", Cond.classLink RX1 27 RX2, Cond.instantiable RX2 1, Cond.initialized RX2, Cond.fieldLink RX1 30 "PinnedPantry$Store" "touches" "LPinnedPantry$Table;", Cond.fieldLink RX1 34 "PinnedPantry$Store" "pins" "LPinnedPantry$Table;", Cond.fieldLink RX1 37 "PinnedPantry$Store" "fetches" "LPinnedPantry$Table;", Cond.fieldLink RX1 40 "PinnedPantry$Store" "places" "I", Cond.methodLink RX1 11 yX0_init, Cond.instanceMethod yX0_init, Cond.code yX0_init cX0_init 1 none, Cond.methodLink RX0 3 objectInit, Cond.arrayClass .int, Cond.fieldLink RX0 9 "PinnedPantry$Row" "kinds" "[I", Cond.fieldLink RX0 15 "PinnedPantry$Row" "length" "I", Cond.methodLink RX1 29 yX2_init, Cond.instanceMethod yX2_init, Cond.code yX2_init cX2_init 1 none, Cond.methodLink RX2 3 objectInit, Cond.fieldLink RX2 9 "PinnedPantry$Table" "numbers" "[I", Cond.methodLink RL 93 yL_build, Cond.static yL_build, Cond.initialized RL]
def wsL_law0_r3 : List Cond := [Cond.code yL_build cL_build 5 (some (.object "PinnedPantryLaw$Sim")), Cond.classLink RL 26 RX5, Cond.instantiable RX5 8, Cond.initialized RX5, Cond.instanceMethod yX5_init, Cond.code yX5_init cX5_init 1 none, Cond.methodLink RX5 1 objectInit, Cond.fieldLink RX5 7 "PinnedPantryLaw$Sim" "places" "I", Cond.classLink RX5 13 "[LPinnedPantryLaw$Jar;", Cond.classLink RX5 15 RX4, Cond.fieldLink RX5 17 "PinnedPantryLaw$Sim" "shelves" "[[LPinnedPantryLaw$Jar;", Cond.classLink RX5 21 "[I", Cond.fieldLink RX5 23 "PinnedPantryLaw$Sim" "lists" "[[I", Cond.methodLink RL 84 yL_cell, Cond.static yL_cell, Cond.code yL_cell cL_cell 2 (some .int), Cond.constant RL 8 (790386105), Cond.methodLink RL 19 yL_below, Cond.static yL_below, Cond.code yL_below cL_below 2 (some .int), Cond.constant RL 7 (2147483647), Cond.methodLink RL 88 yL_act, Cond.static yL_act, Cond.code yL_act cL_act 10 (some .boolean)]
def wsL_law0_r4 : List Cond := [Cond.fieldLink RL 31 "PinnedPantryLaw$Jar" "pins" "I", Cond.fieldLink RL 41 "PinnedPantryLaw$Sim" "shelves" "[[LPinnedPantryLaw$Jar;", Cond.fieldLink RL 52 "PinnedPantryLaw$Jar" "fetched" "I", Cond.fieldLink RL 59 "PinnedPantryLaw$Sim" "places" "I", Cond.fieldLink RL 68 "PinnedPantryLaw$Sim" "goal" "I", Cond.methodLink RL 25 yX5_find, Cond.instanceMethod yX5_find, Cond.selects RX5 yX5_find yX5_find, Cond.code yX5_find cX5_find 10 (some (.object "PinnedPantryLaw$Jar")), Cond.fieldLink RX5 50 "PinnedPantryLaw$Jar" "kind" "I", Cond.methodLink RL 35 yX3_pin, Cond.instanceMethod yX3_pin, Cond.selects RX3 yX3_pin yX3_pin, Cond.code yX3_pin cX3_pin 2 (some .int), Cond.classLink RX3 27 "java/lang/IllegalStateException", Cond.initialized "java/lang/IllegalStateException", Cond.methodLink RX3 19 yX3_requireKind, Cond.static yX3_requireKind, Cond.code yX3_requireKind cX3_requireKind 1 none, Cond.classLink RX3 90 "java/lang/IndexOutOfBoundsException", Cond.initialized "java/lang/IndexOutOfBoundsException", Cond.methodLink RX3 42 yX3_requireJar, Cond.instanceMethod yX3_requireJar, Cond.selects RX3 yX3_requireJar yX3_requireJar]
def wsL_law0_r5 : List Cond := [Cond.code yX3_requireJar cX3_requireJar 2 none, Cond.methodLink RX3 165 yX1_hasJar, Cond.instanceMethod yX1_hasJar, Cond.selects RX1 yX1_hasJar yX1_hasJar, Cond.code yX1_hasJar cX1_hasJar 2 (some .boolean), Cond.methodLink RX1 66 yX0_has, Cond.instanceMethod yX0_has, Cond.selects RX0 yX0_has yX0_has, Cond.code yX0_has cX0_has 2 (some .boolean), Cond.methodLink RX0 19 yX0_placeOf, Cond.instanceMethod yX0_placeOf, Cond.selects RX0 yX0_placeOf yX0_placeOf, Cond.code yX0_placeOf cX0_placeOf 3 (some .int), Cond.methodLink RX3 49 yX2_of, Cond.instanceMethod yX2_of, Cond.selects RX2 yX2_of yX2_of, Cond.code yX2_of cX2_of 2 (some .int), Cond.methodLink RX3 56 yX1_changePins, Cond.instanceMethod yX1_changePins, Cond.selects RX1 yX1_changePins yX1_changePins, Cond.code yX1_changePins cX1_changePins 3 (some .int), Cond.methodLink RX1 81 yX2_of, Cond.methodLink RX1 97 yX2_put, Cond.instanceMethod yX2_put]
def wsL_law0_r6 : List Cond := [Cond.selects RX2 yX2_put yX2_put, Cond.code yX2_put cX2_put 3 none, Cond.methodLink RL 38 yX3_unpin, Cond.instanceMethod yX3_unpin, Cond.selects RX3 yX3_unpin yX3_unpin, Cond.code yX3_unpin cX3_unpin 2 (some .int), Cond.methodLink RL 45 yL_without, Cond.static yL_without, Cond.code yL_without cL_without 4 (some (.array (.object "PinnedPantryLaw$Jar"))), Cond.classLink RL 9 RX4, Cond.methodLink RL 49 yX3_eat, Cond.instanceMethod yX3_eat, Cond.selects RX3 yX3_eat yX3_eat, Cond.code yX3_eat cX3_eat 2 (some .int), Cond.methodLink RX3 64 yX1_remove, Cond.instanceMethod yX1_remove, Cond.selects RX1 yX1_remove yX1_remove, Cond.code yX1_remove cX1_remove 2 (some .int), Cond.methodLink RX1 124 yX0_placeOf, Cond.methodLink RX1 127 yX0_takeOut, Cond.instanceMethod yX0_takeOut, Cond.selects RX0 yX0_takeOut yX0_takeOut, Cond.code yX0_takeOut cX0_takeOut 3 none, Cond.methodLink RL 55 yX5_pinned]
def wsL_law0_r7 : List Cond := [Cond.instanceMethod yX5_pinned, Cond.selects RX5 yX5_pinned yX5_pinned, Cond.code yX5_pinned cX5_pinned 10 (some .int), Cond.fieldLink RX5 47 "PinnedPantryLaw$Jar" "pins" "I", Cond.methodLink RL 62 yX5_setPlaces, Cond.instanceMethod yX5_setPlaces, Cond.selects RX5 yX5_setPlaces yX5_setPlaces, Cond.code yX5_setPlaces cX5_setPlaces 3 none, Cond.fieldLink RX5 28 "PinnedPantryLaw$Sim" "goal" "I", Cond.methodLink RX5 83 yX5_all, Cond.instanceMethod yX5_all, Cond.selects RX5 yX5_all yX5_all, Cond.code yX5_all cX5_all 1 (some .int), Cond.methodLink RX5 94 yX5_sweep, Cond.instanceMethod yX5_sweep, Cond.selects RX5 yX5_sweep yX5_sweep, Cond.code yX5_sweep cX5_sweep 4 (some .int), Cond.fieldLink RX5 40 "PinnedPantryLaw$Sim" "looked" "I", Cond.fieldLink RX5 67 "PinnedPantryLaw$Jar" "isTouched" "Z", Cond.methodLink RX5 53 yX5_free, Cond.instanceMethod yX5_free, Cond.selects RX5 yX5_free yX5_free, Cond.code yX5_free cX5_free 7 (some .int), Cond.static yL_with]
def wsL_law0_r8 : List Cond := [Cond.code yL_with cL_with 4 (some (.array (.object "PinnedPantryLaw$Jar"))), Cond.static yL_with_, Cond.code yL_with_ cL_with_ 4 (some (.array .int)), Cond.static yL_without_, Cond.code yL_without_ cL_without_ 4 (some (.array .int)), Cond.methodLink RL 66 yX3_setPlaces, Cond.instanceMethod yX3_setPlaces, Cond.selects RX3 yX3_setPlaces yX3_setPlaces, Cond.code yX3_setPlaces cX3_setPlaces 3 (some .int), Cond.classLink RX3 67 "java/lang/IllegalArgumentException", Cond.initialized "java/lang/IllegalArgumentException", Cond.methodLink RX3 72 yX1_pinnedJars, Cond.instanceMethod yX1_pinnedJars, Cond.selects RX1 yX1_pinnedJars yX1_pinnedJars, Cond.code yX1_pinnedJars cX1_pinnedJars 1 (some .int), Cond.methodLink RX1 73 yX1_pinnedOn, Cond.instanceMethod yX1_pinnedOn, Cond.selects RX1 yX1_pinnedOn yX1_pinnedOn, Cond.code yX1_pinnedOn cX1_pinnedOn 4 (some .int), Cond.methodLink RX1 77 yX0_at, Cond.instanceMethod yX0_at, Cond.selects RX0 yX0_at yX0_at, Cond.code yX0_at cX0_at 2 (some .int), Cond.methodLink RX3 82 yX1_resize]
def wsL_law0_r9 : List Cond := [Cond.instanceMethod yX1_resize, Cond.selects RX1 yX1_resize yX1_resize, Cond.code yX1_resize cX1_resize 3 none, Cond.fieldLink RX1 51 "PinnedPantry$Store" "goal" "I", Cond.methodLink RX1 118 Lib.Math.min.name, Cond.static Lib.Math.min.name, Cond.initialized "java/lang/Math", Cond.code Lib.Math.min.name Lib.Math.min.code 2 (some .int), Cond.methodLink RX1 87 yX1_jars, Cond.instanceMethod yX1_jars, Cond.selects RX1 yX1_jars yX1_jars, Cond.code yX1_jars cX1_jars 1 (some .int), Cond.methodLink RX1 104 yX1_sweep, Cond.instanceMethod yX1_sweep, Cond.selects RX1 yX1_sweep yX1_sweep, Cond.code yX1_sweep cX1_sweep 5 (some .int), Cond.constant RX1 137 (1000000), Cond.fieldLink RX1 63 "PinnedPantry$Store" "looks" "I", Cond.methodLink RX1 91 yX1_pinnedJars, Cond.methodLink RX1 138 yX1_givingShelf, Cond.instanceMethod yX1_givingShelf, Cond.selects RX1 yX1_givingShelf yX1_givingShelf, Cond.code yX1_givingShelf cX1_givingShelf 4 (some .int), Cond.methodLink RX1 131 Lib.Math.max.name]
def wsL_law0_r10 : List Cond := [Cond.static Lib.Math.max.name, Cond.code Lib.Math.max.name Lib.Math.max.code 2 (some .int), Cond.methodLink RX1 141 yX1_rowOf, Cond.instanceMethod yX1_rowOf, Cond.selects RX1 yX1_rowOf yX1_rowOf, Cond.code yX1_rowOf cX1_rowOf 2 (some (.object "PinnedPantry$Row")), Cond.methodLink RX1 134 yX0_append, Cond.instanceMethod yX0_append, Cond.selects RX0 yX0_append yX0_append, Cond.code yX0_append cX0_append 2 none, Cond.methodLink RX1 145 yX1_listOf, Cond.instanceMethod yX1_listOf, Cond.selects RX1 yX1_listOf yX1_listOf, Cond.code yX1_listOf cX1_listOf 2 (some (.object "PinnedPantry$Row")), Cond.methodLink RX1 148 yX0_forgetEldest, Cond.instanceMethod yX0_forgetEldest, Cond.selects RX0 yX0_forgetEldest yX0_forgetEldest, Cond.code yX0_forgetEldest cX0_forgetEldest 3 none, Cond.methodLink RX0 23 yX0_takeOut, Cond.methodLink RL 71 yX3_setGoal, Cond.instanceMethod yX3_setGoal, Cond.selects RX3 yX3_setGoal yX3_setGoal, Cond.code yX3_setGoal cX3_setGoal 3 (some .int), Cond.methodLink RL 74 yX3_fetchAll]
def wsL_law0_r11 : List Cond := [Cond.instanceMethod yX3_fetchAll, Cond.selects RX3 yX3_fetchAll yX3_fetchAll, Cond.code yX3_fetchAll cX3_fetchAll 4 (some .int), Cond.methodLink RX3 34 yX3_requireSeries, Cond.static yX3_requireSeries, Cond.code yX3_requireSeries cX3_requireSeries 3 none, Cond.methodLink RX3 38 yX1_bringSeries, Cond.instanceMethod yX1_bringSeries, Cond.selects RX1 yX1_bringSeries yX1_bringSeries, Cond.code yX1_bringSeries cX1_bringSeries 6 (some .int), Cond.fieldLink RX1 54 "PinnedPantry$Store" "hits" "I", Cond.methodLink RX1 111 yX1_bring, Cond.instanceMethod yX1_bring, Cond.selects RX1 yX1_bring yX1_bring, Cond.code yX1_bring cX1_bring 3 (some .int), Cond.fieldLink RX1 57 "PinnedPantry$Store" "misses" "I", Cond.methodLink RX1 94 yX1_forecast, Cond.instanceMethod yX1_forecast, Cond.selects RX1 yX1_forecast yX1_forecast, Cond.code yX1_forecast cX1_forecast 2 (some .int), Cond.methodLink RX1 84 yX1_hasJar, Cond.methodLink RX1 101 yX1_recall, Cond.instanceMethod yX1_recall, Cond.selects RX1 yX1_recall yX1_recall]
def wsL_law0_r12 : List Cond := [Cond.code yX1_recall cX1_recall 3 none, Cond.fieldLink RX1 60 "PinnedPantry$Store" "rememberedMisses" "I", Cond.methodLink RX1 114 yX1_turn, Cond.static yX1_turn, Cond.code yX1_turn cX1_turn 3 (some .int), Cond.methodLink RX1 107 yX1_placeNewJar, Cond.instanceMethod yX1_placeNewJar, Cond.selects RX1 yX1_placeNewJar yX1_placeNewJar, Cond.code yX1_placeNewJar cX1_placeNewJar 3 none, Cond.methodLink RL 78 yX5_fetchAll, Cond.instanceMethod yX5_fetchAll, Cond.selects RX5 yX5_fetchAll yX5_fetchAll, Cond.code yX5_fetchAll cX5_fetchAll 7 (some .int), Cond.methodLink RX5 100 yX5_fetch, Cond.instanceMethod yX5_fetch, Cond.selects RX5 yX5_fetch yX5_fetch, Cond.code yX5_fetch cX5_fetch 5 (some .int), Cond.fieldLink RX5 80 "PinnedPantryLaw$Jar" "fetched" "I", Cond.fieldLink RX5 31 "PinnedPantryLaw$Sim" "hits" "I", Cond.fieldLink RX5 34 "PinnedPantryLaw$Sim" "misses" "I", Cond.fieldLink RX5 37 "PinnedPantryLaw$Sim" "remembered" "I", Cond.instantiable RX4 4, Cond.initialized RX4, Cond.methodLink RX5 76 yX5_find]
def wsL_law0_r13 : List Cond := [Cond.methodLink RX5 87 yX5_pinned, Cond.methodLink RX5 90 yX5_list, Cond.instanceMethod yX5_list, Cond.selects RX5 yX5_list yX5_list, Cond.code yX5_list cX5_list 4 (some (.array .int)), Cond.methodLink RX5 97 yX4_init, Cond.instanceMethod yX4_init, Cond.code yX4_init cX4_init 2 none, Cond.methodLink RX4 1 objectInit, Cond.fieldLink RX4 7 "PinnedPantryLaw$Jar" "fetched" "I", Cond.fieldLink RX4 13 "PinnedPantryLaw$Jar" "kind" "I", Cond.methodLink RL 79 yL_fetch, Cond.static yL_fetch, Cond.codeWith yL_fetch cL_fetch 3 (some .int) [(0, 5, 6, 17)], Cond.classLink RL 17 "java/lang/IllegalStateException", Cond.methodLink RL 11 yX3_fetch, Cond.instanceMethod yX3_fetch, Cond.selects RX3 yX3_fetch yX3_fetch, Cond.code yX3_fetch cX3_fetch 3 (some .int), Cond.methodLink RX3 23 yX1_bring, Cond.methodLink RL 82 yX5_fetch, Cond.methodLink RL 97 yX3_count, Cond.instanceMethod yX3_count, Cond.selects RX3 yX3_count yX3_count]
def wsL_law0_r14 : List Cond := [Cond.code yX3_count cX3_count 2 (some .int), Cond.methodLink RX3 114 yX1_tally, Cond.instanceMethod yX1_tally, Cond.selects RX1 yX1_tally yX1_tally, Cond.code yX1_tally cX1_tally 2 (some .int), Cond.methodLink RL 100 yX3_jar, Cond.instanceMethod yX3_jar, Cond.selects RX3 yX3_jar yX3_jar, Cond.code yX3_jar cX3_jar 3 (some .int), Cond.methodLink RX3 95 yX1_detail, Cond.instanceMethod yX1_detail, Cond.selects RX1 yX1_detail yX1_detail, Cond.code yX1_detail cX1_detail 5 (some .int), Cond.methodLink RL 103 yX3_next, Cond.instanceMethod yX3_next, Cond.selects RX3 yX3_next yX3_next, Cond.code yX3_next cX3_next 1 (some .int), Cond.methodLink RX3 117 yX1_become, Cond.instanceMethod yX1_become, Cond.selects RX1 yX1_become yX1_become, Cond.code yX1_become cX1_become 2 none, Cond.methodLink RX1 44 yX0_become, Cond.instanceMethod yX0_become, Cond.selects RX0 yX0_become yX0_become]
def wsL_law0_r15 : List Cond := [Cond.code yX0_become cX0_become 3 none, Cond.methodLink RX1 48 yX2_become, Cond.instanceMethod yX2_become, Cond.selects RX2 yX2_become yX2_become, Cond.code yX2_become cX2_become 3 none, Cond.methodLink RX3 121 yX1_sweep, Cond.methodLink RL 106 yX5_isSame, Cond.instanceMethod yX5_isSame, Cond.selects RX5 yX5_isSame yX5_isSame, Cond.code yX5_isSame cX5_isSame 9 (some .boolean), Cond.methodLink RX5 103 yX3_jar, Cond.methodLink RX5 109 yX3_shelf, Cond.instanceMethod yX3_shelf, Cond.selects RX3 yX3_shelf yX3_shelf, Cond.code yX3_shelf cX3_shelf 3 (some .int), Cond.methodLink RX3 98 yX3_requireShelf, Cond.static yX3_requireShelf, Cond.code yX3_requireShelf cX3_requireShelf 1 none, Cond.methodLink RX3 101 yX1_rowOf, Cond.methodLink RX3 105 yX3_requireAt, Cond.static yX3_requireAt, Cond.code yX3_requireAt cX3_requireAt 3 (some .int), Cond.methodLink RX3 160 yX0_at, Cond.methodLink RX5 112 yX3_ghost]
def wsL_law0_r16 : List Cond := [Cond.instanceMethod yX3_ghost, Cond.selects RX3 yX3_ghost yX3_ghost, Cond.code yX3_ghost cX3_ghost 3 (some .int), Cond.methodLink RX3 109 yX1_listOf, Cond.methodLink RX5 115 yX3_count, Cond.methodLink RX5 118 yX3_mean, Cond.instanceMethod yX3_mean, Cond.selects RX3 yX3_mean yX3_mean, Cond.code yX3_mean cX3_mean 2 (some .double), Cond.methodLink RX3 132 yX1_jars, Cond.methodLink RX3 135 yX1_fetchesOfAll, Cond.instanceMethod yX1_fetchesOfAll, Cond.selects RX1 yX1_fetchesOfAll yX1_fetchesOfAll, Cond.code yX1_fetchesOfAll cX1_fetchesOfAll 3 (some .int)]
def wsL_law0 : List Cond := (wsL_law0_r1 ++ (wsL_law0_r2 ++ (wsL_law0_r3 ++ (wsL_law0_r4 ++ (wsL_law0_r5 ++ (wsL_law0_r6 ++ (wsL_law0_r7 ++ (wsL_law0_r8 ++ (wsL_law0_r9 ++ (wsL_law0_r10 ++ (wsL_law0_r11 ++ (wsL_law0_r12 ++ (wsL_law0_r13 ++ (wsL_law0_r14 ++ (wsL_law0_r15 ++ wsL_law0_r16))))))))))))))) ++ wsX30 ++ wsX10 ++ wsX00 ++ wsX20 ++ wsX50 ++ wsX40 ++ ([] : List Cond)
def wsL_law : List Cond := wsL_law0 ++ (vx_atS RX3 31 "java/lang/IllegalStateException" ["java/lang/RuntimeException", "java/lang/Exception"]).filter goodWord ++ (vx_atS RX3 94 "java/lang/IndexOutOfBoundsException" ["java/lang/RuntimeException", "java/lang/Exception"]).filter goodWord ++ (vx_atS RX3 71 "java/lang/IllegalArgumentException" ["java/lang/RuntimeException", "java/lang/Exception"]).filter goodWord
theorem inlX0 : ∀ w ∈ wsX00, w ∈ wsL_law := fun _ h => List.mem_append_left _ (List.mem_append_left _ (List.mem_append_left _ (List.mem_append_left _ (List.mem_append_left _ (List.mem_append_left _ (List.mem_append_left _ (List.mem_append_right _ h)))))))
theorem inlX1 : ∀ w ∈ wsX10, w ∈ wsL_law := fun _ h => List.mem_append_left _ (List.mem_append_left _ (List.mem_append_left _ (List.mem_append_left _ (List.mem_append_left _ (List.mem_append_left _ (List.mem_append_left _ (List.mem_append_left _ (List.mem_append_right _ h))))))))
theorem inlX2 : ∀ w ∈ wsX20, w ∈ wsL_law := fun _ h => List.mem_append_left _ (List.mem_append_left _ (List.mem_append_left _ (List.mem_append_left _ (List.mem_append_left _ (List.mem_append_left _ (List.mem_append_right _ h))))))
theorem inlX3 : ∀ w ∈ wsX30, w ∈ wsL_law := fun _ h => List.mem_append_left _ (List.mem_append_left _ (List.mem_append_left _ (List.mem_append_left _ (List.mem_append_left _ (List.mem_append_left _ (List.mem_append_left _ (List.mem_append_left _ (List.mem_append_left _ (List.mem_append_right _ h)))))))))
theorem inlX4 : ∀ w ∈ wsX40, w ∈ wsL_law := fun _ h => List.mem_append_left _ (List.mem_append_left _ (List.mem_append_left _ (List.mem_append_left _ (List.mem_append_right _ h))))
theorem inlX5 : ∀ w ∈ wsX50, w ∈ wsL_law := fun _ h => List.mem_append_left _ (List.mem_append_left _ (List.mem_append_left _ (List.mem_append_left _ (List.mem_append_left _ (List.mem_append_right _ h)))))
abbrev vwCl : List vw_C := [(RX0, TX0, 2), (RX1, TX1, 13), (RX2, TX2, 1), (RX3, TX3, 2), (RX4, TX4, 4), (RX5, TX5, 8)]
