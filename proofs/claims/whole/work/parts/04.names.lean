/-! classes and methods -/
def RX0 : String := "StableHeap$Lockable"
def TX0 : u_T := fun k => match k with
  | 0 => ("StableHeap$Lockable", "handle", "I", true)
  | 1 => ("StableHeap$Lockable", "places", "[LStableHeap$Place;", true)
  | 2 => ("StableHeap$Lockable", "owner", "I", false)
  | _ => ("StableHeap$Lockable", "isHeld", "Z", false)
def tyX0 : Nat → FieldType := fun k => match k with
  | 0 => .int
  | 1 => .array (.object "StableHeap$Place")
  | 2 => .int
  | _ => .boolean
theorem nm_X0 : ∀ a, a < 4 → ∀ b, b < 4 → a ≠ b → (TX0 a).2.1 ≠ (TX0 b).2.1 := by decide +kernel
theorem ok_X0 : ∀ k, k < 4 → parseFieldDescriptor (TX0 k).2.2.1 = some (tyX0 k) := by decide +kernel
theorem in_X0 : ∀ w ∈ u_ws RX0 TX0 4, w ∈ TB := by
  intro w hw
  obtain ⟨k, hk, rfl⟩ := List.mem_map.mp hw
  have hk := List.mem_range.mp hk
  rcases (show k = 0 ∨ k = 1 ∨ k = 2 ∨ k = 3 by omega) with rfl | rfl | rfl | rfl
  · exact mb_102
  · exact mb_104
  · exact mb_106
  · exact mb_108
def RX1 : String := "StableHeap$Place"
def TX1 : u_T := fun k => match k with
  | 0 => ("StableHeap$Place", "isReference", "Z", false)
  | 1 => ("StableHeap$Place", "number", "I", false)
  | 2 => ("StableHeap$Place", "target", "LStableHeap$Lockable;", false)
  | 3 => ("StableHeap$Place", "isSet", "Z", false)
  | 4 => ("StableHeap$Place", "formerIsReference", "Z", false)
  | 5 => ("StableHeap$Place", "formerNumber", "I", false)
  | _ => ("StableHeap$Place", "formerTarget", "LStableHeap$Lockable;", false)
def tyX1 : Nat → FieldType := fun k => match k with
  | 0 => .boolean
  | 1 => .int
  | 2 => .object "StableHeap$Lockable"
  | 3 => .boolean
  | 4 => .boolean
  | 5 => .int
  | _ => .object "StableHeap$Lockable"
theorem nm_X1 : ∀ a, a < 7 → ∀ b, b < 7 → a ≠ b → (TX1 a).2.1 ≠ (TX1 b).2.1 := by decide +kernel
theorem ok_X1 : ∀ k, k < 7 → parseFieldDescriptor (TX1 k).2.2.1 = some (tyX1 k) := by decide +kernel
theorem in_X1 : ∀ w ∈ u_ws RX1 TX1 7, w ∈ TB := by
  intro w hw
  obtain ⟨k, hk, rfl⟩ := List.mem_map.mp hw
  have hk := List.mem_range.mp hk
  rcases (show k = 0 ∨ k = 1 ∨ k = 2 ∨ k = 3 ∨ k = 4 ∨ k = 5 ∨ k = 6 by omega) with rfl | rfl | rfl | rfl | rfl | rfl | rfl
  · exact mb_80
  · exact mb_82
  · exact mb_84
  · exact mb_86
  · exact mb_88
  · exact mb_90
  · exact mb_92
def RX2 : String := "StableHeap$Transaction"
def TX2 : u_T := fun k => match k with
  | 0 => ("StableHeap$Transaction", "number", "I", false)
  | _ => ("StableHeap$Transaction", "words", "I", false)
def tyX2 : Nat → FieldType := fun k => match k with
  | 0 => .int
  | _ => .int
theorem nm_X2 : ∀ a, a < 2 → ∀ b, b < 2 → a ≠ b → (TX2 a).2.1 ≠ (TX2 b).2.1 := by decide +kernel
theorem ok_X2 : ∀ k, k < 2 → parseFieldDescriptor (TX2 k).2.2.1 = some (tyX2 k) := by decide +kernel
theorem in_X2 : ∀ w ∈ u_ws RX2 TX2 2, w ∈ TB := by
  intro w hw
  obtain ⟨k, hk, rfl⟩ := List.mem_map.mp hw
  have hk := List.mem_range.mp hk
  rcases (show k = 0 ∨ k = 1 by omega) with rfl | rfl
  · exact mb_119
  · exact mb_121
def RX3 : String := "StableHeap"
def TX3 : u_T := fun k => match k with
  | 0 => ("StableHeap", "roots", "[LStableHeap$Lockable;", true)
  | 1 => ("StableHeap", "objects", "[LStableHeap$Lockable;", true)
  | 2 => ("StableHeap", "held", "[LStableHeap$Lockable;", true)
  | 3 => ("StableHeap", "transactions", "[LStableHeap$Transaction;", true)
  | 4 => ("StableHeap", "objectsThere", "I", false)
  | 5 => ("StableHeap", "objectsHeld", "I", false)
  | 6 => ("StableHeap", "handlesGiven", "I", false)
  | 7 => ("StableHeap", "wordsUsed", "I", false)
  | 8 => ("StableHeap", "wordsOfEnded", "I", false)
  | 9 => ("StableHeap", "transactionsBegun", "I", false)
  | _ => ("StableHeap", "flips", "I", false)
def tyX3 : Nat → FieldType := fun k => match k with
  | 0 => .array (.object "StableHeap$Lockable")
  | 1 => .array (.object "StableHeap$Lockable")
  | 2 => .array (.object "StableHeap$Lockable")
  | 3 => .array (.object "StableHeap$Transaction")
  | 4 => .int
  | 5 => .int
  | 6 => .int
  | 7 => .int
  | 8 => .int
  | 9 => .int
  | _ => .int
theorem nm_X3 : ∀ a, a < 11 → ∀ b, b < 11 → a ≠ b → (TX3 a).2.1 ≠ (TX3 b).2.1 := by decide +kernel
theorem ok_X3 : ∀ k, k < 11 → parseFieldDescriptor (TX3 k).2.2.1 = some (tyX3 k) := by decide +kernel
theorem in_X3 : ∀ w ∈ u_ws RX3 TX3 11, w ∈ TB := by
  intro w hw
  obtain ⟨k, hk, rfl⟩ := List.mem_map.mp hw
  have hk := List.mem_range.mp hk
  rcases (show k = 0 ∨ k = 1 ∨ k = 2 ∨ k = 3 ∨ k = 4 ∨ k = 5 ∨ k = 6 ∨ k = 7 ∨ k = 8 ∨ k = 9 ∨ k = 10 by omega) with rfl | rfl | rfl | rfl | rfl | rfl | rfl | rfl | rfl | rfl | rfl
  · exact mb_135
  · exact mb_137
  · exact mb_139
  · exact mb_141
  · exact mb_143
  · exact mb_145
  · exact mb_147
  · exact mb_149
  · exact mb_151
  · exact mb_153
  · exact mb_155
def RX4 : String := "StableHeapModel"
def TX4 : u_T := fun k => match k with
  | 0 => ("StableHeapModel", "code", "I", false)
  | 1 => ("StableHeapModel", "handle", "[I", true)
  | 2 => ("StableHeapModel", "size", "[I", true)
  | 3 => ("StableHeapModel", "lock", "[I", true)
  | 4 => ("StableHeapModel", "refers", "[Z", true)
  | 5 => ("StableHeapModel", "value", "[I", true)
  | 6 => ("StableHeapModel", "held", "[Z", true)
  | 7 => ("StableHeapModel", "root", "[I", true)
  | 8 => ("StableHeapModel", "rootLock", "[I", true)
  | 9 => ("StableHeapModel", "given", "I", false)
  | 10 => ("StableHeapModel", "used", "I", false)
  | 11 => ("StableHeapModel", "active", "[I", true)
  | 12 => ("StableHeapModel", "words", "[I", true)
  | 13 => ("StableHeapModel", "begun", "I", false)
  | 14 => ("StableHeapModel", "settled", "I", false)
  | 15 => ("StableHeapModel", "flips", "I", false)
  | 16 => ("StableHeapModel", "undoBy", "[I", true)
  | 17 => ("StableHeapModel", "undoCell", "[I", true)
  | 18 => ("StableHeapModel", "undoRefers", "[Z", true)
  | 19 => ("StableHeapModel", "undoValue", "[I", true)
  | _ => ("StableHeapModel", "undos", "I", false)
def tyX4 : Nat → FieldType := fun k => match k with
  | 0 => .int
  | 1 => .array .int
  | 2 => .array .int
  | 3 => .array .int
  | 4 => .array .boolean
  | 5 => .array .int
  | 6 => .array .boolean
  | 7 => .array .int
  | 8 => .array .int
  | 9 => .int
  | 10 => .int
  | 11 => .array .int
  | 12 => .array .int
  | 13 => .int
  | 14 => .int
  | 15 => .int
  | 16 => .array .int
  | 17 => .array .int
  | 18 => .array .boolean
  | 19 => .array .int
  | _ => .int
theorem nm_X4 : ∀ a, a < 21 → ∀ b, b < 21 → a ≠ b → (TX4 a).2.1 ≠ (TX4 b).2.1 := by decide +kernel
theorem ok_X4 : ∀ k, k < 21 → parseFieldDescriptor (TX4 k).2.2.1 = some (tyX4 k) := by decide +kernel
theorem in_X4 : ∀ w ∈ u_ws RX4 TX4 21, w ∈ TB := by
  intro w hw
  obtain ⟨k, hk, rfl⟩ := List.mem_map.mp hw
  have hk := List.mem_range.mp hk
  rcases (show k = 0 ∨ k = 1 ∨ k = 2 ∨ k = 3 ∨ k = 4 ∨ k = 5 ∨ k = 6 ∨ k = 7 ∨ k = 8 ∨ k = 9 ∨ k = 10 ∨ k = 11 ∨ k = 12 ∨ k = 13 ∨ k = 14 ∨ k = 15 ∨ k = 16 ∨ k = 17 ∨ k = 18 ∨ k = 19 ∨ k = 20 by omega) with rfl | rfl | rfl | rfl | rfl | rfl | rfl | rfl | rfl | rfl | rfl | rfl | rfl | rfl | rfl | rfl | rfl | rfl | rfl | rfl | rfl
  · exact mb_511
  · exact mb_513
  · exact mb_515
  · exact mb_517
  · exact mb_519
  · exact mb_521
  · exact mb_523
  · exact mb_525
  · exact mb_527
  · exact mb_529
  · exact mb_531
  · exact mb_533
  · exact mb_535
  · exact mb_537
  · exact mb_539
  · exact mb_541
  · exact mb_543
  · exact mb_545
  · exact mb_547
  · exact mb_549
  · exact mb_551
def RL : String := "StableHeapLaw"
abbrev vwC5 : List vw_C := [(RX0, TX0, 4), (RX1, TX1, 7), (RX2, TX2, 2), (RX3, TX3, 11), (RX4, TX4, 21)]
abbrev th_tys (cs : Nat → ClassId) : List (ClassId × FieldType) := [(cs 0, .object "StableHeap$Lockable"), (cs 1, .object "StableHeap$Transaction"), (cs 2, .object "StableHeap$Place"), (cs 3, .int), (cs 4, .boolean), (cs 5, .long)]
def th_sx : List (String × Nat × String) := [("StableHeap", 175, "3 transactions are active"), ("StableHeap", 202, "there is no room in the log"), ("StableHeap", 177, "the transaction is not active"), ("StableHeap", 52, "an object has 0 to 4 fields"), ("StableHeap", 65, "there is no space"), ("StableHeap", 182, "there is no object with the handle"), ("StableHeap", 189, "there is no such field"), ("StableHeap", 192, "another transaction has it locked"), ("StableHeap", 194, "there is no object to refer to"), ("StableHeap", 164, "there is no such root"), ("StableHeap", 117, "the field is a reference"), ("StableHeap", 121, "the field is an int"), ("StableHeap", 173, "there is no such count")]
def th_nw0 : List Cond := [(Jvm.Cond.arrayOver (Jvm.ClassFile.FieldType.object "StableHeap$Lockable")), (Jvm.Cond.arrayOver (Jvm.ClassFile.FieldType.object "StableHeap$Place")), (Jvm.Cond.methodLinkNest "StableHeap$Lockable" (19 : Nat) ({ cls := "StableHeap$Place", name := "<init>", desc := "()V" } : Jvm.MethodName) "StableHeap"), (Jvm.Cond.arrayOver (Jvm.ClassFile.FieldType.object "StableHeap$Transaction")), (Jvm.Cond.methodLinkNest "StableHeap" (30 : Nat) ({ cls := "StableHeap$Transaction", name := "<init>", desc := "()V" } : Jvm.MethodName) "StableHeap"), (Jvm.Cond.castable "java/lang/IllegalStateException" "java/lang/IllegalStateException"), (Jvm.Cond.declares ({ cls := "java/lang/RuntimeException", name := "<init>", desc := "()V" } : Jvm.MethodName)), (Jvm.Cond.declares ({ cls := "java/lang/RuntimeException", name := "<init>", desc := "(Ljava/lang/String;)V" } : Jvm.MethodName)), (Jvm.Cond.declares ({ cls := "java/lang/Exception", name := "<init>", desc := "()V" } : Jvm.MethodName)), (Jvm.Cond.declares ({ cls := "java/lang/Exception", name := "<init>", desc := "(Ljava/lang/String;)V" } : Jvm.MethodName)), (Jvm.Cond.declares ({ cls := "java/lang/Throwable", name := "<init>", desc := "()V" } : Jvm.MethodName)), (Jvm.Cond.declares ({ cls := "java/lang/Throwable", name := "<init>", desc := "(Ljava/lang/String;)V" } : Jvm.MethodName)), (Jvm.Cond.castable "java/lang/UnsupportedOperationException" "java/lang/UnsupportedOperationException"), (Jvm.Cond.castable "java/util/NoSuchElementException" "java/util/NoSuchElementException"), (Jvm.Cond.castable "java/lang/IllegalArgumentException" "java/lang/IllegalArgumentException"), (Jvm.Cond.castable "java/lang/IndexOutOfBoundsException" "java/lang/IndexOutOfBoundsException"), (Jvm.Cond.castable "java/lang/ArithmeticException" "java/lang/ArithmeticException")]
def th_nwN : List Cond := [(Jvm.Cond.not (Jvm.Cond.castable "java/util/NoSuchElementException" "java/lang/IllegalArgumentException")), (Jvm.Cond.not (Jvm.Cond.castable "java/util/NoSuchElementException" "java/lang/IllegalStateException")), (Jvm.Cond.not (Jvm.Cond.castable "java/util/NoSuchElementException" "java/lang/UnsupportedOperationException")), (Jvm.Cond.not (Jvm.Cond.castable "java/util/NoSuchElementException" "java/lang/IndexOutOfBoundsException")), (Jvm.Cond.not (Jvm.Cond.castable "java/util/NoSuchElementException" "java/lang/ArithmeticException")), (Jvm.Cond.not (Jvm.Cond.castable "java/lang/IllegalArgumentException" "java/util/NoSuchElementException")), (Jvm.Cond.not (Jvm.Cond.castable "java/lang/IllegalArgumentException" "java/lang/IllegalStateException")), (Jvm.Cond.not (Jvm.Cond.castable "java/lang/IllegalArgumentException" "java/lang/UnsupportedOperationException")), (Jvm.Cond.not (Jvm.Cond.castable "java/lang/IllegalArgumentException" "java/lang/IndexOutOfBoundsException")), (Jvm.Cond.not (Jvm.Cond.castable "java/lang/IllegalArgumentException" "java/lang/ArithmeticException")), (Jvm.Cond.not (Jvm.Cond.castable "java/lang/IllegalStateException" "java/util/NoSuchElementException")), (Jvm.Cond.not (Jvm.Cond.castable "java/lang/IllegalStateException" "java/lang/IllegalArgumentException")), (Jvm.Cond.not (Jvm.Cond.castable "java/lang/IllegalStateException" "java/lang/UnsupportedOperationException")), (Jvm.Cond.not (Jvm.Cond.castable "java/lang/IllegalStateException" "java/lang/IndexOutOfBoundsException")), (Jvm.Cond.not (Jvm.Cond.castable "java/lang/IllegalStateException" "java/lang/ArithmeticException")), (Jvm.Cond.not (Jvm.Cond.castable "java/lang/UnsupportedOperationException" "java/util/NoSuchElementException")), (Jvm.Cond.not (Jvm.Cond.castable "java/lang/UnsupportedOperationException" "java/lang/IllegalArgumentException")), (Jvm.Cond.not (Jvm.Cond.castable "java/lang/UnsupportedOperationException" "java/lang/IllegalStateException")), (Jvm.Cond.not (Jvm.Cond.castable "java/lang/UnsupportedOperationException" "java/lang/IndexOutOfBoundsException")), (Jvm.Cond.not (Jvm.Cond.castable "java/lang/UnsupportedOperationException" "java/lang/ArithmeticException")), (Jvm.Cond.not (Jvm.Cond.castable "java/lang/IndexOutOfBoundsException" "java/util/NoSuchElementException")), (Jvm.Cond.not (Jvm.Cond.castable "java/lang/IndexOutOfBoundsException" "java/lang/IllegalArgumentException")), (Jvm.Cond.not (Jvm.Cond.castable "java/lang/IndexOutOfBoundsException" "java/lang/IllegalStateException")), (Jvm.Cond.not (Jvm.Cond.castable "java/lang/IndexOutOfBoundsException" "java/lang/UnsupportedOperationException")), (Jvm.Cond.not (Jvm.Cond.castable "java/lang/IndexOutOfBoundsException" "java/lang/ArithmeticException")), (Jvm.Cond.not (Jvm.Cond.castable "java/lang/ArithmeticException" "java/util/NoSuchElementException")), (Jvm.Cond.not (Jvm.Cond.castable "java/lang/ArithmeticException" "java/lang/IllegalArgumentException")), (Jvm.Cond.not (Jvm.Cond.castable "java/lang/ArithmeticException" "java/lang/IllegalStateException")), (Jvm.Cond.not (Jvm.Cond.castable "java/lang/ArithmeticException" "java/lang/UnsupportedOperationException")), (Jvm.Cond.not (Jvm.Cond.castable "java/lang/ArithmeticException" "java/lang/IndexOutOfBoundsException"))]
def th_nw : List Cond := th_nw0 ++ th_nwN
theorem sx_175 : ("StableHeap", 175, "3 transactions are active") ∈ th_sx := List.mem_of_getElem? (i := 0) rfl
theorem sx_202 : ("StableHeap", 202, "there is no room in the log") ∈ th_sx := List.mem_of_getElem? (i := 1) rfl
theorem sx_177 : ("StableHeap", 177, "the transaction is not active") ∈ th_sx := List.mem_of_getElem? (i := 2) rfl
theorem sx_52 : ("StableHeap", 52, "an object has 0 to 4 fields") ∈ th_sx := List.mem_of_getElem? (i := 3) rfl
theorem sx_65 : ("StableHeap", 65, "there is no space") ∈ th_sx := List.mem_of_getElem? (i := 4) rfl
theorem sx_182 : ("StableHeap", 182, "there is no object with the handle") ∈ th_sx := List.mem_of_getElem? (i := 5) rfl
theorem sx_189 : ("StableHeap", 189, "there is no such field") ∈ th_sx := List.mem_of_getElem? (i := 6) rfl
theorem sx_192 : ("StableHeap", 192, "another transaction has it locked") ∈ th_sx := List.mem_of_getElem? (i := 7) rfl
theorem sx_194 : ("StableHeap", 194, "there is no object to refer to") ∈ th_sx := List.mem_of_getElem? (i := 8) rfl
theorem sx_164 : ("StableHeap", 164, "there is no such root") ∈ th_sx := List.mem_of_getElem? (i := 9) rfl
theorem sx_117 : ("StableHeap", 117, "the field is a reference") ∈ th_sx := List.mem_of_getElem? (i := 10) rfl
theorem sx_121 : ("StableHeap", 121, "the field is an int") ∈ th_sx := List.mem_of_getElem? (i := 11) rfl
theorem sx_173 : ("StableHeap", 173, "there is no such count") ∈ th_sx := List.mem_of_getElem? (i := 12) rfl
theorem nw_w0 : Jvm.Cond.arrayOver (Jvm.ClassFile.FieldType.object "StableHeap$Lockable") ∈ th_nw := List.mem_of_getElem? (i := 0) rfl
theorem nw_w1 : Jvm.Cond.arrayOver (Jvm.ClassFile.FieldType.object "StableHeap$Place") ∈ th_nw := List.mem_of_getElem? (i := 1) rfl
theorem nw_w2 : Jvm.Cond.methodLinkNest "StableHeap$Lockable" (19 : Nat) ({ cls := "StableHeap$Place", name := "<init>", desc := "()V" } : Jvm.MethodName) "StableHeap" ∈ th_nw := List.mem_of_getElem? (i := 2) rfl
theorem nw_w3 : Jvm.Cond.arrayOver (Jvm.ClassFile.FieldType.object "StableHeap$Transaction") ∈ th_nw := List.mem_of_getElem? (i := 3) rfl
theorem nw_w4 : Jvm.Cond.methodLinkNest "StableHeap" (30 : Nat) ({ cls := "StableHeap$Transaction", name := "<init>", desc := "()V" } : Jvm.MethodName) "StableHeap" ∈ th_nw := List.mem_of_getElem? (i := 4) rfl
abbrev cX3_init : ByteArray := prog_1_method_1_code
def yX3_init : MethodName := ⟨RX3, "<init>", "()V"⟩
abbrev wsX3_init : List Cond := .code yX3_init cX3_init 2 none :: TB
abbrev cX3_begin : ByteArray := prog_1_method_2_code
def yX3_begin : MethodName := ⟨RX3, "begin", "()I"⟩
abbrev wsX3_begin : List Cond := .code yX3_begin cX3_begin 2 (some .int) :: TB
abbrev cX3_make : ByteArray := prog_1_method_3_code
def yX3_make : MethodName := ⟨RX3, "make", "(II)I"⟩
abbrev wsX3_make : List Cond := .code yX3_make cX3_make 5 (some .int) :: TB
abbrev cX3_setInt : ByteArray := prog_1_method_4_code
def yX3_setInt : MethodName := ⟨RX3, "setInt", "(IIII)I"⟩
abbrev wsX3_setInt : List Cond := .code yX3_setInt cX3_setInt 8 (some .int) :: TB
abbrev cX3_setReference : ByteArray := prog_1_method_5_code
def yX3_setReference : MethodName := ⟨RX3, "setReference", "(IIII)I"⟩
abbrev wsX3_setReference : List Cond := .code yX3_setReference cX3_setReference 8 (some .int) :: TB
abbrev cX3_setRoot : ByteArray := prog_1_method_6_code
def yX3_setRoot : MethodName := ⟨RX3, "setRoot", "(III)I"⟩
abbrev wsX3_setRoot : List Cond := .code yX3_setRoot cX3_setRoot 6 (some .int) :: TB
abbrev cX3_getInt : ByteArray := prog_1_method_7_code
def yX3_getInt : MethodName := ⟨RX3, "getInt", "(III)I"⟩
abbrev wsX3_getInt : List Cond := .code yX3_getInt cX3_getInt 5 (some .int) :: TB
abbrev cX3_getReference : ByteArray := prog_1_method_8_code
def yX3_getReference : MethodName := ⟨RX3, "getReference", "(III)I"⟩
abbrev wsX3_getReference : List Cond := .code yX3_getReference cX3_getReference 5 (some .int) :: TB
abbrev cX3_getRoot : ByteArray := prog_1_method_9_code
def yX3_getRoot : MethodName := ⟨RX3, "getRoot", "(II)I"⟩
abbrev wsX3_getRoot : List Cond := .code yX3_getRoot cX3_getRoot 5 (some .int) :: TB
abbrev cX3_commit : ByteArray := prog_1_method_10_code
def yX3_commit : MethodName := ⟨RX3, "commit", "(I)I"⟩
abbrev wsX3_commit : List Cond := .code yX3_commit cX3_commit 3 (some .int) :: TB
abbrev cX3_abort : ByteArray := prog_1_method_11_code
def yX3_abort : MethodName := ⟨RX3, "abort", "(I)I"⟩
abbrev wsX3_abort : List Cond := .code yX3_abort cX3_abort 2 (some .int) :: TB
abbrev cX3_checkpoint : ByteArray := prog_1_method_12_code
def yX3_checkpoint : MethodName := ⟨RX3, "checkpoint", "()I"⟩
abbrev wsX3_checkpoint : List Cond := .code yX3_checkpoint cX3_checkpoint 1 (some .int) :: TB
abbrev cX3_crash : ByteArray := prog_1_method_13_code
def yX3_crash : MethodName := ⟨RX3, "crash", "()I"⟩
abbrev wsX3_crash : List Cond := .code yX3_crash cX3_crash 3 (some .int) :: TB
abbrev cX3_collect : ByteArray := prog_1_method_14_code
def yX3_collect : MethodName := ⟨RX3, "collect", "(I)I"⟩
abbrev wsX3_collect : List Cond := .code yX3_collect cX3_collect 3 (some .int) :: TB
abbrev cX3_fields : ByteArray := prog_1_method_15_code
def yX3_fields : MethodName := ⟨RX3, "fields", "(I)I"⟩
abbrev wsX3_fields : List Cond := .code yX3_fields cX3_fields 2 (some .int) :: TB
abbrev cX3_lockedBy : ByteArray := prog_1_method_16_code
def yX3_lockedBy : MethodName := ⟨RX3, "lockedBy", "(II)I"⟩
abbrev wsX3_lockedBy : List Cond := .code yX3_lockedBy cX3_lockedBy 3 (some .int) :: TB
abbrev cX3_count : ByteArray := prog_1_method_17_code
def yX3_count : MethodName := ⟨RX3, "count", "(I)I"⟩
abbrev wsX3_count : List Cond := .code yX3_count cX3_count 2 (some .int) :: TB
abbrev cX3_unusedTransaction : ByteArray := prog_1_method_18_code
def yX3_unusedTransaction : MethodName := ⟨RX3, "unusedTransaction", "()LStableHeap$Transaction;"⟩
abbrev wsX3_unusedTransaction : List Cond := .code yX3_unusedTransaction cX3_unusedTransaction 2 (some (.object "StableHeap$Transaction")) :: TB
abbrev cX3_activeTransaction : ByteArray := prog_1_method_19_code
def yX3_activeTransaction : MethodName := ⟨RX3, "activeTransaction", "(I)LStableHeap$Transaction;"⟩
abbrev wsX3_activeTransaction : List Cond := .code yX3_activeTransaction cX3_activeTransaction 3 (some (.object "StableHeap$Transaction")) :: TB
abbrev cX3_activeTransactions : ByteArray := prog_1_method_20_code
def yX3_activeTransactions : MethodName := ⟨RX3, "activeTransactions", "()I"⟩
abbrev wsX3_activeTransactions : List Cond := .code yX3_activeTransactions cX3_activeTransactions 3 (some .int) :: TB
abbrev cX3_objectWith : ByteArray := prog_1_method_21_code
def yX3_objectWith : MethodName := ⟨RX3, "objectWith", "(I)LStableHeap$Lockable;"⟩
abbrev wsX3_objectWith : List Cond := .code yX3_objectWith cX3_objectWith 3 (some (.object "StableHeap$Lockable")) :: TB
abbrev cX3_findObject : ByteArray := prog_1_method_22_code
def yX3_findObject : MethodName := ⟨RX3, "findObject", "(I)LStableHeap$Lockable;"⟩
abbrev wsX3_findObject : List Cond := .code yX3_findObject cX3_findObject 3 (some (.object "StableHeap$Lockable")) :: TB
abbrev cX3_fieldOf : ByteArray := prog_1_method_23_code
def yX3_fieldOf : MethodName := ⟨RX3, "fieldOf", "(LStableHeap$Lockable;I)LStableHeap$Place;"⟩
abbrev wsX3_fieldOf : List Cond := .code yX3_fieldOf cX3_fieldOf 2 (some (.object "StableHeap$Place")) :: TB
abbrev cX3_rootAt : ByteArray := prog_1_method_24_code
def yX3_rootAt : MethodName := ⟨RX3, "rootAt", "(I)LStableHeap$Lockable;"⟩
abbrev wsX3_rootAt : List Cond := .code yX3_rootAt cX3_rootAt 2 (some (.object "StableHeap$Lockable")) :: TB
abbrev cX3_handleOf : ByteArray := prog_1_method_25_code
def yX3_handleOf : MethodName := ⟨RX3, "handleOf", "(LStableHeap$Lockable;)I"⟩
abbrev wsX3_handleOf : List Cond := .code yX3_handleOf cX3_handleOf 1 (some .int) :: TB
abbrev cX3_refuseIfLockedByAnother : ByteArray := prog_1_method_26_code
def yX3_refuseIfLockedByAnother : MethodName := ⟨RX3, "refuseIfLockedByAnother", "(LStableHeap$Lockable;LStableHeap$Transaction;)V"⟩
abbrev wsX3_refuseIfLockedByAnother : List Cond := .code yX3_refuseIfLockedByAnother cX3_refuseIfLockedByAnother 2 none :: TB
abbrev cX3_readField : ByteArray := prog_1_method_27_code
def yX3_readField : MethodName := ⟨RX3, "readField", "(III)LStableHeap$Place;"⟩
abbrev wsX3_readField : List Cond := .code yX3_readField cX3_readField 7 (some (.object "StableHeap$Place")) :: TB
abbrev cX3_refer : ByteArray := prog_1_method_28_code
def yX3_refer : MethodName := ⟨RX3, "refer", "(LStableHeap$Transaction;LStableHeap$Lockable;LStableHeap$Place;I)V"⟩
abbrev wsX3_refer : List Cond := .code yX3_refer cX3_refer 6 none :: TB
abbrev cX3_wordsInLog : ByteArray := prog_1_method_29_code
def yX3_wordsInLog : MethodName := ⟨RX3, "wordsInLog", "()I"⟩
abbrev wsX3_wordsInLog : List Cond := .code yX3_wordsInLog cX3_wordsInLog 3 (some .int) :: TB
abbrev cX3_writeRecord : ByteArray := prog_1_method_30_code
def yX3_writeRecord : MethodName := ⟨RX3, "writeRecord", "(LStableHeap$Transaction;I)V"⟩
abbrev wsX3_writeRecord : List Cond := .code yX3_writeRecord cX3_writeRecord 3 none :: TB
abbrev cX3_end : ByteArray := prog_1_method_31_code
def yX3_end : MethodName := ⟨RX3, "end", "(LStableHeap$Transaction;Z)I"⟩
abbrev wsX3_end : List Cond := .code yX3_end cX3_end 5 (some .int) :: TB
abbrev cX3_findHeld : ByteArray := prog_1_method_32_code
def yX3_findHeld : MethodName := ⟨RX3, "findHeld", "()V"⟩
abbrev wsX3_findHeld : List Cond := .code yX3_findHeld cX3_findHeld 2 none :: TB
abbrev cX3_holdTargets : ByteArray := prog_1_method_33_code
def yX3_holdTargets : MethodName := ⟨RX3, "holdTargets", "(LStableHeap$Lockable;)V"⟩
abbrev wsX3_holdTargets : List Cond := .code yX3_holdTargets cX3_holdTargets 3 none :: TB
abbrev cX3_hold : ByteArray := prog_1_method_34_code
def yX3_hold : MethodName := ⟨RX3, "hold", "(LStableHeap$Lockable;)V"⟩
abbrev wsX3_hold : List Cond := .code yX3_hold cX3_hold 2 none :: TB
abbrev cX3_flip : ByteArray := prog_1_method_35_code
def yX3_flip : MethodName := ⟨RX3, "flip", "()V"⟩
abbrev wsX3_flip : List Cond := .code yX3_flip cX3_flip 3 none :: TB
abbrev cX4_init : ByteArray := prog_6_method_1_code
def yX4_init : MethodName := ⟨RX4, "<init>", "()V"⟩
abbrev wsX4_init : List Cond := .code yX4_init cX4_init 1 none :: TB
abbrev cX4_thrown : ByteArray := prog_6_method_2_code
def yX4_thrown : MethodName := ⟨RX4, "thrown", "()I"⟩
abbrev wsX4_thrown : List Cond := .code yX4_thrown cX4_thrown 1 (some .int) :: TB
abbrev cX4_raise : ByteArray := prog_6_method_3_code
def yX4_raise : MethodName := ⟨RX4, "raise", "(I)I"⟩
abbrev wsX4_raise : List Cond := .code yX4_raise cX4_raise 2 (some .int) :: TB
abbrev cX4_out : ByteArray := prog_6_method_4_code
def yX4_out : MethodName := ⟨RX4, "out", "(II)Z"⟩
abbrev wsX4_out : List Cond := .code yX4_out cX4_out 2 (some .boolean) :: TB
abbrev cX4_place : ByteArray := prog_6_method_5_code
def yX4_place : MethodName := ⟨RX4, "place", "(I)I"⟩
abbrev wsX4_place : List Cond := .code yX4_place cX4_place 3 (some .int) :: TB
abbrev cX4_row : ByteArray := prog_6_method_6_code
def yX4_row : MethodName := ⟨RX4, "row", "(I)I"⟩
abbrev wsX4_row : List Cond := .code yX4_row cX4_row 3 (some .int) :: TB
abbrev cX4_log : ByteArray := prog_6_method_7_code
def yX4_log : MethodName := ⟨RX4, "log", "()I"⟩
abbrev wsX4_log : List Cond := .code yX4_log cX4_log 1 (some .int) :: TB
abbrev cX4_actives : ByteArray := prog_6_method_8_code
def yX4_actives : MethodName := ⟨RX4, "actives", "()I"⟩
abbrev wsX4_actives : List Cond := .code yX4_actives cX4_actives 3 (some .int) :: TB
abbrev cX4_begin : ByteArray := prog_6_method_9_code
def yX4_begin : MethodName := ⟨RX4, "begin", "()I"⟩
abbrev wsX4_begin : List Cond := .code yX4_begin cX4_begin 2 (some .int) :: TB
abbrev cX4_make : ByteArray := prog_6_method_10_code
def yX4_make : MethodName := ⟨RX4, "make", "(II)I"⟩
abbrev wsX4_make : List Cond := .code yX4_make cX4_make 6 (some .int) :: TB
abbrev cX4_cell : ByteArray := prog_6_method_11_code
def yX4_cell : MethodName := ⟨RX4, "cell", "(III)I"⟩
abbrev wsX4_cell : List Cond := .code yX4_cell cX4_cell 5 (some .int) :: TB
abbrev cX4_rootCell : ByteArray := prog_6_method_12_code
def yX4_rootCell : MethodName := ⟨RX4, "rootCell", "(II)I"⟩
abbrev wsX4_rootCell : List Cond := .code yX4_rootCell cX4_rootCell 3 (some .int) :: TB
abbrev cX4_lockCell : ByteArray := prog_6_method_13_code
def yX4_lockCell : MethodName := ⟨RX4, "lockCell", "(II)V"⟩
abbrev wsX4_lockCell : List Cond := .code yX4_lockCell cX4_lockCell 3 none :: TB
abbrev cX4_replaced : ByteArray := prog_6_method_14_code
def yX4_replaced : MethodName := ⟨RX4, "replaced", "(II)Z"⟩
abbrev wsX4_replaced : List Cond := .code yX4_replaced cX4_replaced 4 (some .boolean) :: TB
abbrev cX4_assign : ByteArray := prog_6_method_15_code
def yX4_assign : MethodName := ⟨RX4, "assign", "(IZI)V"⟩
abbrev wsX4_assign : List Cond := .code yX4_assign cX4_assign 4 none :: TB
abbrev cX4_set : ByteArray := prog_6_method_16_code
def yX4_set : MethodName := ⟨RX4, "set", "(IIZI)I"⟩
abbrev wsX4_set : List Cond := .code yX4_set cX4_set 5 (some .int) :: TB
abbrev cX4_setInt : ByteArray := prog_6_method_17_code
def yX4_setInt : MethodName := ⟨RX4, "setInt", "(IIII)I"⟩
abbrev wsX4_setInt : List Cond := .code yX4_setInt cX4_setInt 6 (some .int) :: TB
abbrev cX4_refer : ByteArray := prog_6_method_18_code
def yX4_refer : MethodName := ⟨RX4, "refer", "(III)I"⟩
abbrev wsX4_refer : List Cond := .code yX4_refer cX4_refer 4 (some .int) :: TB
abbrev cX4_setReference : ByteArray := prog_6_method_19_code
def yX4_setReference : MethodName := ⟨RX4, "setReference", "(IIII)I"⟩
abbrev wsX4_setReference : List Cond := .code yX4_setReference cX4_setReference 5 (some .int) :: TB
abbrev cX4_setRoot : ByteArray := prog_6_method_20_code
def yX4_setRoot : MethodName := ⟨RX4, "setRoot", "(III)I"⟩
abbrev wsX4_setRoot : List Cond := .code yX4_setRoot cX4_setRoot 4 (some .int) :: TB
abbrev cX4_get : ByteArray := prog_6_method_21_code
def yX4_get : MethodName := ⟨RX4, "get", "(IIIZ)I"⟩
abbrev wsX4_get : List Cond := .code yX4_get cX4_get 6 (some .int) :: TB
abbrev cX4_getInt : ByteArray := prog_6_method_22_code
def yX4_getInt : MethodName := ⟨RX4, "getInt", "(III)I"⟩
abbrev wsX4_getInt : List Cond := .code yX4_getInt cX4_getInt 4 (some .int) :: TB
abbrev cX4_getReference : ByteArray := prog_6_method_23_code
def yX4_getReference : MethodName := ⟨RX4, "getReference", "(III)I"⟩
abbrev wsX4_getReference : List Cond := .code yX4_getReference cX4_getReference 4 (some .int) :: TB
abbrev cX4_getRoot : ByteArray := prog_6_method_24_code
def yX4_getRoot : MethodName := ⟨RX4, "getRoot", "(II)I"⟩
abbrev wsX4_getRoot : List Cond := .code yX4_getRoot cX4_getRoot 4 (some .int) :: TB
abbrev cX4_unlock : ByteArray := prog_6_method_25_code
def yX4_unlock : MethodName := ⟨RX4, "unlock", "(I)I"⟩
abbrev wsX4_unlock : List Cond := .code yX4_unlock cX4_unlock 4 (some .int) :: TB
abbrev cX4_forget : ByteArray := prog_6_method_26_code
def yX4_forget : MethodName := ⟨RX4, "forget", "(IZ)V"⟩
abbrev wsX4_forget : List Cond := .code yX4_forget cX4_forget 5 none :: TB
abbrev cX4_end : ByteArray := prog_6_method_27_code
def yX4_end : MethodName := ⟨RX4, "end", "(IZ)I"⟩
abbrev wsX4_end : List Cond := .code yX4_end cX4_end 4 (some .int) :: TB
abbrev cX4_commit : ByteArray := prog_6_method_28_code
def yX4_commit : MethodName := ⟨RX4, "commit", "(I)I"⟩
abbrev wsX4_commit : List Cond := .code yX4_commit cX4_commit 3 (some .int) :: TB
abbrev cX4_abort : ByteArray := prog_6_method_29_code
def yX4_abort : MethodName := ⟨RX4, "abort", "(I)I"⟩
abbrev wsX4_abort : List Cond := .code yX4_abort cX4_abort 3 (some .int) :: TB
abbrev cX4_checkpoint : ByteArray := prog_6_method_30_code
def yX4_checkpoint : MethodName := ⟨RX4, "checkpoint", "()I"⟩
abbrev wsX4_checkpoint : List Cond := .code yX4_checkpoint cX4_checkpoint 1 (some .int) :: TB
abbrev cX4_crash : ByteArray := prog_6_method_31_code
def yX4_crash : MethodName := ⟨RX4, "crash", "()I"⟩
abbrev wsX4_crash : List Cond := .code yX4_crash cX4_crash 4 (some .int) :: TB
abbrev cX4_hold : ByteArray := prog_6_method_32_code
def yX4_hold : MethodName := ⟨RX4, "hold", "(I)V"⟩
abbrev wsX4_hold : List Cond := .code yX4_hold cX4_hold 3 none :: TB
abbrev cX4_markHeld : ByteArray := prog_6_method_33_code
def yX4_markHeld : MethodName := ⟨RX4, "markHeld", "()I"⟩
abbrev wsX4_markHeld : List Cond := .code yX4_markHeld cX4_markHeld 4 (some .int) :: TB
abbrev cX4_collect : ByteArray := prog_6_method_34_code
def yX4_collect : MethodName := ⟨RX4, "collect", "(I)I"⟩
abbrev wsX4_collect : List Cond := .code yX4_collect cX4_collect 5 (some .int) :: TB
abbrev cX4_fields : ByteArray := prog_6_method_35_code
def yX4_fields : MethodName := ⟨RX4, "fields", "(I)I"⟩
abbrev wsX4_fields : List Cond := .code yX4_fields cX4_fields 3 (some .int) :: TB
abbrev cX4_lockedBy : ByteArray := prog_6_method_36_code
def yX4_lockedBy : MethodName := ⟨RX4, "lockedBy", "(II)I"⟩
abbrev wsX4_lockedBy : List Cond := .code yX4_lockedBy cX4_lockedBy 4 (some .int) :: TB
abbrev cX4_count : ByteArray := prog_6_method_37_code
def yX4_count : MethodName := ⟨RX4, "count", "(I)I"⟩
abbrev wsX4_count : List Cond := .code yX4_count cX4_count 4 (some .int) :: TB
abbrev cX0_init : ByteArray := prog_2_method_1_code
def yX0_init : MethodName := ⟨RX0, "<init>", "(II)V"⟩
abbrev wsX0_init : List Cond := .code yX0_init cX0_init 4 none :: TB
abbrev cX0_words : ByteArray := prog_2_method_2_code
def yX0_words : MethodName := ⟨RX0, "words", "()I"⟩
abbrev wsX0_words : List Cond := .code yX0_words cX0_words 1 (some .int) :: TB
abbrev cX0_unlock : ByteArray := prog_2_method_3_code
def yX0_unlock : MethodName := ⟨RX0, "unlock", "(IZ)I"⟩
abbrev wsX0_unlock : List Cond := .code yX0_unlock cX0_unlock 4 (some .int) :: TB
abbrev cX1_init : ByteArray := prog_3_method_1_code
def yX1_init : MethodName := ⟨RX1, "<init>", "()V"⟩
abbrev wsX1_init : List Cond := .code yX1_init cX1_init 1 none :: TB
abbrev cX1_putNumber : ByteArray := prog_3_method_2_code
def yX1_putNumber : MethodName := ⟨RX1, "putNumber", "(I)V"⟩
abbrev wsX1_putNumber : List Cond := .code yX1_putNumber cX1_putNumber 2 none :: TB
abbrev cX1_putReference : ByteArray := prog_3_method_3_code
def yX1_putReference : MethodName := ⟨RX1, "putReference", "(LStableHeap$Lockable;)V"⟩
abbrev wsX1_putReference : List Cond := .code yX1_putReference cX1_putReference 2 none :: TB
abbrev cX1_takeBack : ByteArray := prog_3_method_4_code
def yX1_takeBack : MethodName := ⟨RX1, "takeBack", "()V"⟩
abbrev wsX1_takeBack : List Cond := .code yX1_takeBack cX1_takeBack 1 none :: TB
abbrev cX1_forgetFormer : ByteArray := prog_3_method_5_code
def yX1_forgetFormer : MethodName := ⟨RX1, "forgetFormer", "()V"⟩
abbrev wsX1_forgetFormer : List Cond := .code yX1_forgetFormer cX1_forgetFormer 1 none :: TB
abbrev cX1_rememberFormer : ByteArray := prog_3_method_6_code
def yX1_rememberFormer : MethodName := ⟨RX1, "rememberFormer", "()V"⟩
abbrev wsX1_rememberFormer : List Cond := .code yX1_rememberFormer cX1_rememberFormer 1 none :: TB
abbrev cX2_init : ByteArray := prog_4_method_1_code
def yX2_init : MethodName := ⟨RX2, "<init>", "()V"⟩
abbrev wsX2_init : List Cond := .code yX2_init cX2_init 1 none :: TB
abbrev cX2_isActive : ByteArray := prog_4_method_2_code
def yX2_isActive : MethodName := ⟨RX2, "isActive", "()Z"⟩
abbrev wsX2_isActive : List Cond := .code yX2_isActive cX2_isActive 1 (some .boolean) :: TB
abbrev cL_begin : ByteArray := method_3_code
def yL_begin : MethodName := ⟨RL, "begin", "(LStableHeap;[J)I"⟩
abbrev hhL_begin : List (Nat × Nat × Nat × Nat) := [((0 : Nat), (8 : Nat), (11 : Nat), (13 : Nat)), ((0 : Nat), (8 : Nat), (14 : Nat), (15 : Nat))]
abbrev wsL_begin : List Cond := .codeWith yL_begin cL_begin 3 (some .int) hhL_begin :: TB
abbrev cL_make : ByteArray := method_4_code
def yL_make : MethodName := ⟨RL, "make", "(LStableHeap;II[J)I"⟩
abbrev hhL_make : List (Nat × Nat × Nat × Nat) := [((0 : Nat), (10 : Nat), (13 : Nat), (21 : Nat)), ((0 : Nat), (10 : Nat), (17 : Nat), (23 : Nat)), ((0 : Nat), (10 : Nat), (21 : Nat), (13 : Nat)), ((0 : Nat), (10 : Nat), (25 : Nat), (15 : Nat))]
abbrev wsL_make : List Cond := .codeWith yL_make cL_make 5 (some .int) hhL_make :: TB
abbrev cL_setInt : ByteArray := method_5_code
def yL_setInt : MethodName := ⟨RL, "setInt", "(LStableHeap;IIII[J)I"⟩
abbrev hhL_setInt : List (Nat × Nat × Nat × Nat) := [((0 : Nat), (14 : Nat), (17 : Nat), (21 : Nat)), ((0 : Nat), (14 : Nat), (21 : Nat), (29 : Nat)), ((0 : Nat), (14 : Nat), (25 : Nat), (13 : Nat)), ((0 : Nat), (14 : Nat), (29 : Nat), (15 : Nat))]
abbrev wsL_setInt : List Cond := .codeWith yL_setInt cL_setInt 7 (some .int) hhL_setInt :: TB
abbrev cL_setReference : ByteArray := method_6_code
def yL_setReference : MethodName := ⟨RL, "setReference", "(LStableHeap;IIII[J)I"⟩
abbrev hhL_setReference : List (Nat × Nat × Nat × Nat) := [((0 : Nat), (14 : Nat), (17 : Nat), (21 : Nat)), ((0 : Nat), (14 : Nat), (21 : Nat), (29 : Nat)), ((0 : Nat), (14 : Nat), (25 : Nat), (13 : Nat)), ((0 : Nat), (14 : Nat), (29 : Nat), (23 : Nat)), ((0 : Nat), (14 : Nat), (33 : Nat), (15 : Nat))]
abbrev wsL_setReference : List Cond := .codeWith yL_setReference cL_setReference 7 (some .int) hhL_setReference :: TB
abbrev cL_setRoot : ByteArray := method_7_code
def yL_setRoot : MethodName := ⟨RL, "setRoot", "(LStableHeap;III[J)I"⟩
abbrev hhL_setRoot : List (Nat × Nat × Nat × Nat) := [((0 : Nat), (12 : Nat), (15 : Nat), (21 : Nat)), ((0 : Nat), (12 : Nat), (19 : Nat), (29 : Nat)), ((0 : Nat), (12 : Nat), (23 : Nat), (13 : Nat)), ((0 : Nat), (12 : Nat), (27 : Nat), (23 : Nat)), ((0 : Nat), (12 : Nat), (31 : Nat), (15 : Nat))]
abbrev wsL_setRoot : List Cond := .codeWith yL_setRoot cL_setRoot 6 (some .int) hhL_setRoot :: TB
abbrev cL_getInt : ByteArray := method_8_code
def yL_getInt : MethodName := ⟨RL, "getInt", "(LStableHeap;III[J)I"⟩
abbrev hhL_getInt : List (Nat × Nat × Nat × Nat) := [((0 : Nat), (12 : Nat), (15 : Nat), (21 : Nat)), ((0 : Nat), (12 : Nat), (19 : Nat), (29 : Nat)), ((0 : Nat), (12 : Nat), (23 : Nat), (13 : Nat)), ((0 : Nat), (12 : Nat), (27 : Nat), (41 : Nat))]
abbrev wsL_getInt : List Cond := .codeWith yL_getInt cL_getInt 6 (some .int) hhL_getInt :: TB
abbrev cL_getReference : ByteArray := method_9_code
def yL_getReference : MethodName := ⟨RL, "getReference", "(LStableHeap;III[J)I"⟩
abbrev hhL_getReference : List (Nat × Nat × Nat × Nat) := [((0 : Nat), (12 : Nat), (15 : Nat), (21 : Nat)), ((0 : Nat), (12 : Nat), (19 : Nat), (29 : Nat)), ((0 : Nat), (12 : Nat), (23 : Nat), (13 : Nat)), ((0 : Nat), (12 : Nat), (27 : Nat), (41 : Nat))]
abbrev wsL_getReference : List Cond := .codeWith yL_getReference cL_getReference 6 (some .int) hhL_getReference :: TB
abbrev cL_getRoot : ByteArray := method_10_code
def yL_getRoot : MethodName := ⟨RL, "getRoot", "(LStableHeap;II[J)I"⟩
abbrev hhL_getRoot : List (Nat × Nat × Nat × Nat) := [((0 : Nat), (10 : Nat), (13 : Nat), (21 : Nat)), ((0 : Nat), (10 : Nat), (17 : Nat), (29 : Nat)), ((0 : Nat), (10 : Nat), (21 : Nat), (13 : Nat))]
abbrev wsL_getRoot : List Cond := .codeWith yL_getRoot cL_getRoot 5 (some .int) hhL_getRoot :: TB
abbrev cL_commit : ByteArray := method_11_code
def yL_commit : MethodName := ⟨RL, "commit", "(LStableHeap;I[J)I"⟩
abbrev hhL_commit : List (Nat × Nat × Nat × Nat) := [((0 : Nat), (9 : Nat), (12 : Nat), (21 : Nat)), ((0 : Nat), (9 : Nat), (15 : Nat), (15 : Nat))]
abbrev wsL_commit : List Cond := .codeWith yL_commit cL_commit 4 (some .int) hhL_commit :: TB
abbrev cL_abort : ByteArray := method_12_code
def yL_abort : MethodName := ⟨RL, "abort", "(LStableHeap;I[J)I"⟩
abbrev hhL_abort : List (Nat × Nat × Nat × Nat) := [((0 : Nat), (9 : Nat), (12 : Nat), (21 : Nat))]
abbrev wsL_abort : List Cond := .codeWith yL_abort cL_abort 4 (some .int) hhL_abort :: TB
abbrev cL_fields : ByteArray := method_13_code
def yL_fields : MethodName := ⟨RL, "fields", "(LStableHeap;I[J)I"⟩
abbrev hhL_fields : List (Nat × Nat × Nat × Nat) := [((0 : Nat), (9 : Nat), (12 : Nat), (21 : Nat))]
abbrev wsL_fields : List Cond := .codeWith yL_fields cL_fields 4 (some .int) hhL_fields :: TB
abbrev cL_lockedBy : ByteArray := method_14_code
def yL_lockedBy : MethodName := ⟨RL, "lockedBy", "(LStableHeap;II[J)I"⟩
abbrev hhL_lockedBy : List (Nat × Nat × Nat × Nat) := [((0 : Nat), (10 : Nat), (13 : Nat), (21 : Nat))]
abbrev wsL_lockedBy : List Cond := .codeWith yL_lockedBy cL_lockedBy 5 (some .int) hhL_lockedBy :: TB
abbrev cL_count : ByteArray := method_15_code
def yL_count : MethodName := ⟨RL, "count", "(LStableHeap;I[J)I"⟩
abbrev hhL_count : List (Nat × Nat × Nat × Nat) := [((0 : Nat), (9 : Nat), (12 : Nat), (23 : Nat))]
abbrev wsL_count : List Cond := .codeWith yL_count cL_count 4 (some .int) hhL_count :: TB
