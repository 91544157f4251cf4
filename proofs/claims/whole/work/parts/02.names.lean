def RX0 : String := "PromiseDesk$AsyncRun"
def TX0 : u_T := fun k => match k with
  | 0 => ("PromiseDesk$AsyncRun", "awaited", "[I", true)
  | 1 => ("PromiseDesk$AsyncRun", "handler", "LPromiseDesk$Simple;", true)
  | 2 => ("PromiseDesk$AsyncRun", "end", "I", true)
  | 3 => ("PromiseDesk$AsyncRun", "capability", "LPromiseDesk$Resolvers;", true)
  | _ => ("PromiseDesk$AsyncRun", "next", "I", false)
def tyX0 : Nat → FieldType := fun k => match k with
  | 0 => .array .int
  | 1 => .object "PromiseDesk$Simple"
  | 2 => .int
  | 3 => .object "PromiseDesk$Resolvers"
  | _ => .int
theorem nmX0 : ∀ a, a < 5 → ∀ b, b < 5 → a ≠ b → (TX0 a).2.1 ≠ (TX0 b).2.1 := by decide +kernel
theorem tyX0_ok : ∀ k, k < 5 → parseFieldDescriptor (TX0 k).2.2.1 = some (tyX0 k) := by decide +kernel
abbrev cX0_init : ByteArray := prog_2_method_1_code
def yX0_init : MethodName := ⟨RX0, "<init>", "([ILPromiseDesk$Simple;ILPromiseDesk$Resolvers;)V"⟩
def RX1 : String := "PromiseDesk$Combination"
def TX1 : u_T := fun k => match k with
  | 0 => ("PromiseDesk$Combination", "sort", "I", true)
  | 1 => ("PromiseDesk$Combination", "values", "[I", true)
  | 2 => ("PromiseDesk$Combination", "capability", "LPromiseDesk$Resolvers;", true)
  | _ => ("PromiseDesk$Combination", "remaining", "I", false)
def tyX1 : Nat → FieldType := fun k => match k with
  | 0 => .int
  | 1 => .array .int
  | 2 => .object "PromiseDesk$Resolvers"
  | _ => .int
theorem nmX1 : ∀ a, a < 4 → ∀ b, b < 4 → a ≠ b → (TX1 a).2.1 ≠ (TX1 b).2.1 := by decide +kernel
theorem tyX1_ok : ∀ k, k < 4 → parseFieldDescriptor (TX1 k).2.2.1 = some (tyX1 k) := by decide +kernel
abbrev cX1_init : ByteArray := prog_3_method_1_code
def yX1_init : MethodName := ⟨RX1, "<init>", "(IILPromiseDesk$Resolvers;)V"⟩
def RX2 : String := "PromiseDesk$Element"
def TX2 : u_T := fun k => match k with
  | 0 => ("PromiseDesk$Element", "combination", "LPromiseDesk$Combination;", true)
  | 1 => ("PromiseDesk$Element", "index", "I", true)
  | _ => ("PromiseDesk$Element", "rejects", "Z", true)
def tyX2 : Nat → FieldType := fun k => match k with
  | 0 => .object "PromiseDesk$Combination"
  | 1 => .int
  | _ => .boolean
theorem nmX2 : ∀ a, a < 3 → ∀ b, b < 3 → a ≠ b → (TX2 a).2.1 ≠ (TX2 b).2.1 := by decide +kernel
theorem tyX2_ok : ∀ k, k < 3 → parseFieldDescriptor (TX2 k).2.2.1 = some (tyX2 k) := by decide +kernel
abbrev cX2_init : ByteArray := prog_4_method_1_code
def yX2_init : MethodName := ⟨RX2, "<init>", "(LPromiseDesk$Combination;IZ)V"⟩
abbrev cX2_callIn : ByteArray := prog_4_method_2_code
def yX2_callIn : MethodName := ⟨RX2, "callIn", "(LPromiseDesk;I)I"⟩
def RX3 : String := "PromiseDesk$Function"
def TX3 : u_T := fun k => match k with
  | _ => ("", "", "", false)
def tyX3 : Nat → FieldType := fun k => match k with
  | _ => .int
theorem nmX3 : ∀ a, a < 0 → ∀ b, b < 0 → a ≠ b → (TX3 a).2.1 ≠ (TX3 b).2.1 := by decide +kernel
theorem tyX3_ok : ∀ k, k < 0 → parseFieldDescriptor (TX3 k).2.2.1 = some (tyX3 k) := by decide +kernel
abbrev cX3_init : ByteArray := prog_5_method_1_code
def yX3_init : MethodName := ⟨RX3, "<init>", "()V"⟩
def RX4 : String := "PromiseDesk$Job"
def TX4 : u_T := fun k => match k with
  | 0 => ("PromiseDesk$Job", "yes", "LPromiseDesk$Function;", true)
  | 1 => ("PromiseDesk$Job", "no", "LPromiseDesk$Function;", true)
  | 2 => ("PromiseDesk$Job", "capability", "LPromiseDesk$Resolvers;", true)
  | 3 => ("PromiseDesk$Job", "run", "LPromiseDesk$AsyncRun;", true)
  | 4 => ("PromiseDesk$Job", "followed", "LPromiseDesk$Thing;", true)
  | 5 => ("PromiseDesk$Job", "rejects", "Z", false)
  | 6 => ("PromiseDesk$Job", "argument", "I", false)
  | _ => ("PromiseDesk$Job", "next", "LPromiseDesk$Job;", false)
def tyX4 : Nat → FieldType := fun k => match k with
  | 0 => .object "PromiseDesk$Function"
  | 1 => .object "PromiseDesk$Function"
  | 2 => .object "PromiseDesk$Resolvers"
  | 3 => .object "PromiseDesk$AsyncRun"
  | 4 => .object "PromiseDesk$Thing"
  | 5 => .boolean
  | 6 => .int
  | _ => .object "PromiseDesk$Job"
theorem nmX4 : ∀ a, a < 8 → ∀ b, b < 8 → a ≠ b → (TX4 a).2.1 ≠ (TX4 b).2.1 := by decide +kernel
theorem tyX4_ok : ∀ k, k < 8 → parseFieldDescriptor (TX4 k).2.2.1 = some (tyX4 k) := by decide +kernel
abbrev cX4_init : ByteArray := prog_6_method_1_code
def yX4_init : MethodName := ⟨RX4, "<init>", "(LPromiseDesk$Function;LPromiseDesk$Function;LPromiseDesk$Resolvers;LPromiseDesk$AsyncRun;LPromiseDesk$Thing;)V"⟩
abbrev cX4_reaction : ByteArray := prog_6_method_2_code
def yX4_reaction : MethodName := ⟨RX4, "reaction", "(LPromiseDesk$Function;LPromiseDesk$Function;LPromiseDesk$Resolvers;)LPromiseDesk$Job;"⟩
abbrev cX4_resumption : ByteArray := prog_6_method_3_code
def yX4_resumption : MethodName := ⟨RX4, "resumption", "(LPromiseDesk$AsyncRun;)LPromiseDesk$Job;"⟩
abbrev cX4_follow : ByteArray := prog_6_method_4_code
def yX4_follow : MethodName := ⟨RX4, "follow", "(LPromiseDesk$Thing;LPromiseDesk$Promise;)LPromiseDesk$Job;"⟩
abbrev cX4_hear : ByteArray := prog_6_method_5_code
def yX4_hear : MethodName := ⟨RX4, "hear", "(ZI)V"⟩
def RX5 : String := "PromiseDesk$Lastly"
def TX5 : u_T := fun k => match k with
  | 0 => ("PromiseDesk$Lastly", "handler", "LPromiseDesk$Simple;", true)
  | _ => ("PromiseDesk$Lastly", "actBehind", "I", true)
def tyX5 : Nat → FieldType := fun k => match k with
  | 0 => .object "PromiseDesk$Simple"
  | _ => .int
theorem nmX5 : ∀ a, a < 2 → ∀ b, b < 2 → a ≠ b → (TX5 a).2.1 ≠ (TX5 b).2.1 := by decide +kernel
theorem tyX5_ok : ∀ k, k < 2 → parseFieldDescriptor (TX5 k).2.2.1 = some (tyX5 k) := by decide +kernel
abbrev cX5_init : ByteArray := prog_7_method_1_code
def yX5_init : MethodName := ⟨RX5, "<init>", "(LPromiseDesk$Simple;I)V"⟩
abbrev cX5_callIn : ByteArray := prog_7_method_2_code
def yX5_callIn : MethodName := ⟨RX5, "callIn", "(LPromiseDesk;I)I"⟩
def RX6 : String := "PromiseDesk$Promise"
def TX6 : u_T := fun k => match k with
  | 0 => ("PromiseDesk$Thing", "value", "I", true)
  | 1 => ("PromiseDesk$Thing", "kind", "I", true)
  | 2 => ("PromiseDesk$Thing", "parts", "[I", true)
  | 3 => ("PromiseDesk$Promise", "state", "I", false)
  | 4 => ("PromiseDesk$Promise", "result", "I", false)
  | 5 => ("PromiseDesk$Promise", "handled", "Z", false)
  | 6 => ("PromiseDesk$Promise", "kept", "LPromiseDesk$Resolvers;", false)
  | 7 => ("PromiseDesk$Promise", "firstWaiting", "LPromiseDesk$Job;", false)
  | _ => ("PromiseDesk$Promise", "lastWaiting", "LPromiseDesk$Job;", false)
def tyX6 : Nat → FieldType := fun k => match k with
  | 0 => .int
  | 1 => .int
  | 2 => .array .int
  | 3 => .int
  | 4 => .int
  | 5 => .boolean
  | 6 => .object "PromiseDesk$Resolvers"
  | 7 => .object "PromiseDesk$Job"
  | _ => .object "PromiseDesk$Job"
theorem nmX6 : ∀ a, a < 9 → ∀ b, b < 9 → a ≠ b → (TX6 a).2.1 ≠ (TX6 b).2.1 := by decide +kernel
theorem tyX6_ok : ∀ k, k < 9 → parseFieldDescriptor (TX6 k).2.2.1 = some (tyX6 k) := by decide +kernel
abbrev cX6_init : ByteArray := prog_8_method_1_code
def yX6_init : MethodName := ⟨RX6, "<init>", "(I)V"⟩
def RX7 : String := "PromiseDesk$Resolvers"
def TX7 : u_T := fun k => match k with
  | 0 => ("PromiseDesk$Resolvers", "promise", "LPromiseDesk$Promise;", true)
  | _ => ("PromiseDesk$Resolvers", "called", "Z", false)
def tyX7 : Nat → FieldType := fun k => match k with
  | 0 => .object "PromiseDesk$Promise"
  | _ => .boolean
theorem nmX7 : ∀ a, a < 2 → ∀ b, b < 2 → a ≠ b → (TX7 a).2.1 ≠ (TX7 b).2.1 := by decide +kernel
theorem tyX7_ok : ∀ k, k < 2 → parseFieldDescriptor (TX7 k).2.2.1 = some (tyX7 k) := by decide +kernel
abbrev cX7_init : ByteArray := prog_9_method_1_code
def yX7_init : MethodName := ⟨RX7, "<init>", "(LPromiseDesk$Promise;)V"⟩
def RX8 : String := "PromiseDesk$Simple"
def TX8 : u_T := fun k => match k with
  | 0 => ("PromiseDesk$Simple", "number", "I", true)
  | 1 => ("PromiseDesk$Simple", "act", "I", true)
  | 2 => ("PromiseDesk$Simple", "value", "I", true)
  | _ => ("PromiseDesk$Simple", "target", "LPromiseDesk$Resolvers;", true)
def tyX8 : Nat → FieldType := fun k => match k with
  | 0 => .int
  | 1 => .int
  | 2 => .int
  | _ => .object "PromiseDesk$Resolvers"
theorem nmX8 : ∀ a, a < 4 → ∀ b, b < 4 → a ≠ b → (TX8 a).2.1 ≠ (TX8 b).2.1 := by decide +kernel
theorem tyX8_ok : ∀ k, k < 4 → parseFieldDescriptor (TX8 k).2.2.1 = some (tyX8 k) := by decide +kernel
abbrev cX8_init : ByteArray := prog_10_method_1_code
def yX8_init : MethodName := ⟨RX8, "<init>", "(IIILPromiseDesk$Resolvers;)V"⟩
abbrev cX8_resolving : ByteArray := prog_10_method_2_code
def yX8_resolving : MethodName := ⟨RX8, "resolving", "(LPromiseDesk$Resolvers;)LPromiseDesk$Simple;"⟩
abbrev cX8_rejecting : ByteArray := prog_10_method_3_code
def yX8_rejecting : MethodName := ⟨RX8, "rejecting", "(LPromiseDesk$Resolvers;)LPromiseDesk$Simple;"⟩
abbrev cX8_callIn : ByteArray := prog_10_method_4_code
def yX8_callIn : MethodName := ⟨RX8, "callIn", "(LPromiseDesk;I)I"⟩
def RX9 : String := "PromiseDesk$Thenable"
def TX9 : u_T := fun k => match k with
  | 0 => ("PromiseDesk$Thing", "value", "I", true)
  | 1 => ("PromiseDesk$Thing", "kind", "I", true)
  | 2 => ("PromiseDesk$Thing", "parts", "[I", true)
  | 3 => ("PromiseDesk$Thenable", "what", "I", true)
  | 4 => ("PromiseDesk$Thenable", "firstAct", "I", false)
  | 5 => ("PromiseDesk$Thenable", "firstValue", "I", false)
  | 6 => ("PromiseDesk$Thenable", "secondAct", "I", false)
  | 7 => ("PromiseDesk$Thenable", "secondValue", "I", false)
  | _ => ("PromiseDesk$Thenable", "kept", "LPromiseDesk$Resolvers;", false)
def tyX9 : Nat → FieldType := fun k => match k with
  | 0 => .int
  | 1 => .int
  | 2 => .array .int
  | 3 => .int
  | 4 => .int
  | 5 => .int
  | 6 => .int
  | 7 => .int
  | _ => .object "PromiseDesk$Resolvers"
theorem nmX9 : ∀ a, a < 9 → ∀ b, b < 9 → a ≠ b → (TX9 a).2.1 ≠ (TX9 b).2.1 := by decide +kernel
theorem tyX9_ok : ∀ k, k < 9 → parseFieldDescriptor (TX9 k).2.2.1 = some (tyX9 k) := by decide +kernel
abbrev cX9_init : ByteArray := prog_11_method_1_code
def yX9_init : MethodName := ⟨RX9, "<init>", "(II)V"⟩
def RX10 : String := "PromiseDesk$Thing"
def TX10 : u_T := fun k => match k with
  | 0 => ("PromiseDesk$Thing", "value", "I", true)
  | 1 => ("PromiseDesk$Thing", "kind", "I", true)
  | _ => ("PromiseDesk$Thing", "parts", "[I", true)
def tyX10 : Nat → FieldType := fun k => match k with
  | 0 => .int
  | 1 => .int
  | _ => .array .int
theorem nmX10 : ∀ a, a < 3 → ∀ b, b < 3 → a ≠ b → (TX10 a).2.1 ≠ (TX10 b).2.1 := by decide +kernel
theorem tyX10_ok : ∀ k, k < 3 → parseFieldDescriptor (TX10 k).2.2.1 = some (tyX10 k) := by decide +kernel
abbrev cX10_init : ByteArray := prog_12_method_1_code
def yX10_init : MethodName := ⟨RX10, "<init>", "(II[I)V"⟩
def RX11 : String := "PromiseDesk"
def TX11 : u_T := fun k => match k with
  | 0 => ("PromiseDesk", "things", "Ljava/util/ArrayList;", true)
  | 1 => ("PromiseDesk", "handlers", "Ljava/util/ArrayList;", true)
  | 2 => ("PromiseDesk", "items", "[I", true)
  | 3 => ("PromiseDesk", "itemCount", "I", false)
  | 4 => ("PromiseDesk", "pairs", "[I", false)
  | 5 => ("PromiseDesk", "pairCount", "I", false)
  | 6 => ("PromiseDesk", "firstJob", "LPromiseDesk$Job;", false)
  | 7 => ("PromiseDesk", "lastJob", "LPromiseDesk$Job;", false)
  | 8 => ("PromiseDesk", "jobCount", "I", false)
  | _ => ("PromiseDesk", "threw", "Z", false)
def tyX11 : Nat → FieldType := fun k => match k with
  | 0 => .object "java/util/ArrayList"
  | 1 => .object "java/util/ArrayList"
  | 2 => .array .int
  | 3 => .int
  | 4 => .array .int
  | 5 => .int
  | 6 => .object "PromiseDesk$Job"
  | 7 => .object "PromiseDesk$Job"
  | 8 => .int
  | _ => .boolean
theorem nmX11 : ∀ a, a < 10 → ∀ b, b < 10 → a ≠ b → (TX11 a).2.1 ≠ (TX11 b).2.1 := by decide +kernel
theorem tyX11_ok : ∀ k, k < 10 → parseFieldDescriptor (TX11 k).2.2.1 = some (tyX11 k) := by decide +kernel
abbrev cX11_init : ByteArray := prog_1_method_1_code
def yX11_init : MethodName := ⟨RX11, "<init>", "()V"⟩
abbrev cX11_promise : ByteArray := prog_1_method_2_code
def yX11_promise : MethodName := ⟨RX11, "promise", "()I"⟩
abbrev cX11_handler : ByteArray := prog_1_method_3_code
def yX11_handler : MethodName := ⟨RX11, "handler", "(II)I"⟩
abbrev cX11_thenable : ByteArray := prog_1_method_4_code
def yX11_thenable : MethodName := ⟨RX11, "thenable", "(IIIII)I"⟩
abbrev cX11_settle : ByteArray := prog_1_method_5_code
def yX11_settle : MethodName := ⟨RX11, "settle", "(IZI)Z"⟩
abbrev cX11_later : ByteArray := prog_1_method_6_code
def yX11_later : MethodName := ⟨RX11, "later", "(IZI)I"⟩
abbrev cX11_then : ByteArray := prog_1_method_7_code
def yX11_then : MethodName := ⟨RX11, "then", "(IIIZ)I"⟩
abbrev cX11_lastly : ByteArray := prog_1_method_8_code
def yX11_lastly : MethodName := ⟨RX11, "lastly", "(II)I"⟩
abbrev cX11_wrap : ByteArray := prog_1_method_9_code
def yX11_wrap : MethodName := ⟨RX11, "wrap", "(I)I"⟩
abbrev cX11_broken : ByteArray := prog_1_method_10_code
def yX11_broken : MethodName := ⟨RX11, "broken", "(I)I"⟩
abbrev cX11_item : ByteArray := prog_1_method_11_code
def yX11_item : MethodName := ⟨RX11, "item", "(I)I"⟩
abbrev cX11_combine : ByteArray := prog_1_method_12_code
def yX11_combine : MethodName := ⟨RX11, "combine", "(I)I"⟩
abbrev cX11_async : ByteArray := prog_1_method_13_code
def yX11_async : MethodName := ⟨RX11, "async", "(II)I"⟩
abbrev cX11_jobs : ByteArray := prog_1_method_14_code
def yX11_jobs : MethodName := ⟨RX11, "jobs", "(I)I"⟩
abbrev cX11_state : ByteArray := prog_1_method_15_code
def yX11_state : MethodName := ⟨RX11, "state", "(I)I"⟩
abbrev cX11_result : ByteArray := prog_1_method_16_code
def yX11_result : MethodName := ⟨RX11, "result", "(I)I"⟩
abbrev cX11_kind : ByteArray := prog_1_method_17_code
def yX11_kind : MethodName := ⟨RX11, "kind", "(I)I"⟩
abbrev cX11_part : ByteArray := prog_1_method_18_code
def yX11_part : MethodName := ⟨RX11, "part", "(II)I"⟩
abbrev cX11_log : ByteArray := prog_1_method_19_code
def yX11_log : MethodName := ⟨RX11, "log", "(IZ)I"⟩
abbrev cX11_count : ByteArray := prog_1_method_20_code
def yX11_count : MethodName := ⟨RX11, "count", "(I)I"⟩
abbrev cX11_requireRange : ByteArray := prog_1_method_21_code
def yX11_requireRange : MethodName := ⟨RX11, "requireRange", "(III)V"⟩
abbrev cX11_requireValue : ByteArray := prog_1_method_22_code
def yX11_requireValue : MethodName := ⟨RX11, "requireValue", "(I)V"⟩
abbrev cX11_requireThing : ByteArray := prog_1_method_23_code
def yX11_requireThing : MethodName := ⟨RX11, "requireThing", "(I)LPromiseDesk$Thing;"⟩
abbrev cX11_requirePromise : ByteArray := prog_1_method_24_code
def yX11_requirePromise : MethodName := ⟨RX11, "requirePromise", "(I)LPromiseDesk$Promise;"⟩
abbrev cX11_requireThenable : ByteArray := prog_1_method_25_code
def yX11_requireThenable : MethodName := ⟨RX11, "requireThenable", "(I)LPromiseDesk$Thenable;"⟩
abbrev cX11_requireKept : ByteArray := prog_1_method_26_code
def yX11_requireKept : MethodName := ⟨RX11, "requireKept", "(I)LPromiseDesk$Resolvers;"⟩
abbrev cX11_requireHandler : ByteArray := prog_1_method_27_code
def yX11_requireHandler : MethodName := ⟨RX11, "requireHandler", "(I)LPromiseDesk$Simple;"⟩
abbrev cX11_requireParts : ByteArray := prog_1_method_28_code
def yX11_requireParts : MethodName := ⟨RX11, "requireParts", "(I)[I"⟩
abbrev cX11_requireRoom : ByteArray := prog_1_method_29_code
def yX11_requireRoom : MethodName := ⟨RX11, "requireRoom", "(I)V"⟩
abbrev cX11_requireRoomInLog : ByteArray := prog_1_method_30_code
def yX11_requireRoomInLog : MethodName := ⟨RX11, "requireRoomInLog", "()V"⟩
abbrev cX11_thingOf : ByteArray := prog_1_method_31_code
def yX11_thingOf : MethodName := ⟨RX11, "thingOf", "(I)LPromiseDesk$Thing;"⟩
abbrev cX11_nextValue : ByteArray := prog_1_method_32_code
def yX11_nextValue : MethodName := ⟨RX11, "nextValue", "()I"⟩
abbrev cX11_newThing : ByteArray := prog_1_method_33_code
def yX11_newThing : MethodName := ⟨RX11, "newThing", "(I[I)I"⟩
abbrev cX11_newPromise : ByteArray := prog_1_method_34_code
def yX11_newPromise : MethodName := ⟨RX11, "newPromise", "()LPromiseDesk$Resolvers;"⟩
abbrev cX11_note : ByteArray := prog_1_method_35_code
def yX11_note : MethodName := ⟨RX11, "note", "(II)V"⟩
abbrev cX11_takeList : ByteArray := prog_1_method_36_code
def yX11_takeList : MethodName := ⟨RX11, "takeList", "()[I"⟩
abbrev cX11_enqueue : ByteArray := prog_1_method_37_code
def yX11_enqueue : MethodName := ⟨RX11, "enqueue", "(LPromiseDesk$Job;)V"⟩
abbrev cX11_dequeue : ByteArray := prog_1_method_38_code
def yX11_dequeue : MethodName := ⟨RX11, "dequeue", "(LPromiseDesk$Job;)V"⟩
abbrev cX11_callOneOf : ByteArray := prog_1_method_39_code
def yX11_callOneOf : MethodName := ⟨RX11, "callOneOf", "(LPromiseDesk$Resolvers;ZI)Z"⟩
abbrev cX11_resolve : ByteArray := prog_1_method_40_code
def yX11_resolve : MethodName := ⟨RX11, "resolve", "(LPromiseDesk$Resolvers;I)V"⟩
abbrev cX11_hasThenFunction : ByteArray := prog_1_method_41_code
def yX11_hasThenFunction : MethodName := ⟨RX11, "hasThenFunction", "(LPromiseDesk$Thing;)Z"⟩
abbrev cX11_reject : ByteArray := prog_1_method_42_code
def yX11_reject : MethodName := ⟨RX11, "reject", "(LPromiseDesk$Resolvers;I)V"⟩
abbrev cX11_close : ByteArray := prog_1_method_43_code
def yX11_close : MethodName := ⟨RX11, "close", "(LPromiseDesk$Promise;II)V"⟩
abbrev cX11_promiseFor : ByteArray := prog_1_method_44_code
def yX11_promiseFor : MethodName := ⟨RX11, "promiseFor", "(I)LPromiseDesk$Promise;"⟩
abbrev cX11_derive : ByteArray := prog_1_method_45_code
def yX11_derive : MethodName := ⟨RX11, "derive", "(LPromiseDesk$Promise;LPromiseDesk$Function;LPromiseDesk$Function;)I"⟩
abbrev cX11_attach : ByteArray := prog_1_method_46_code
def yX11_attach : MethodName := ⟨RX11, "attach", "(LPromiseDesk$Promise;LPromiseDesk$Job;)V"⟩
abbrev cX11_doJob : ByteArray := prog_1_method_47_code
def yX11_doJob : MethodName := ⟨RX11, "doJob", "(LPromiseDesk$Job;)V"⟩
abbrev cX11_finish : ByteArray := prog_1_method_48_code
def yX11_finish : MethodName := ⟨RX11, "finish", "(LPromiseDesk$Resolvers;I)V"⟩
abbrev cX11_hears : ByteArray := prog_1_method_49_code
def yX11_hears : MethodName := ⟨RX11, "hears", "(LPromiseDesk$AsyncRun;LPromiseDesk$Job;)Z"⟩
abbrev cX11_advance : ByteArray := prog_1_method_50_code
def yX11_advance : MethodName := ⟨RX11, "advance", "(LPromiseDesk$AsyncRun;)V"⟩
abbrev cX11_callThen : ByteArray := prog_1_method_51_code
def yX11_callThen : MethodName := ⟨RX11, "callThen", "(LPromiseDesk$Thenable;LPromiseDesk$Resolvers;)V"⟩
abbrev cX11_doAct : ByteArray := prog_1_method_52_code
def yX11_doAct : MethodName := ⟨RX11, "doAct", "(LPromiseDesk$Thenable;IILPromiseDesk$Resolvers;)V"⟩
abbrev cX11_onFulfilled : ByteArray := prog_1_method_53_code
def yX11_onFulfilled : MethodName := ⟨RX11, "onFulfilled", "(LPromiseDesk$Combination;I)LPromiseDesk$Function;"⟩
abbrev cX11_onRejected : ByteArray := prog_1_method_54_code
def yX11_onRejected : MethodName := ⟨RX11, "onRejected", "(LPromiseDesk$Combination;I)LPromiseDesk$Function;"⟩
abbrev cX11_complete : ByteArray := prog_1_method_55_code
def yX11_complete : MethodName := ⟨RX11, "complete", "(LPromiseDesk$Combination;)V"⟩
def RX12 : String := "PromiseDeskModel"
def TX12 : u_T := fun k => match k with
  | 0 => ("PromiseDeskModel", "thrown", "I", false)
  | 1 => ("PromiseDeskModel", "objects", "I", false)
  | 2 => ("PromiseDeskModel", "kind", "[I", true)
  | 3 => ("PromiseDeskModel", "state", "[I", true)
  | 4 => ("PromiseDeskModel", "result", "[I", true)
  | 5 => ("PromiseDeskModel", "reactions", "[I", true)
  | 6 => ("PromiseDeskModel", "kept", "[I", true)
  | 7 => ("PromiseDeskModel", "handled", "[Z", true)
  | 8 => ("PromiseDeskModel", "dataA", "[I", true)
  | 9 => ("PromiseDeskModel", "dataB", "[I", true)
  | 10 => ("PromiseDeskModel", "dataC", "[I", true)
  | 11 => ("PromiseDeskModel", "dataD", "[I", true)
  | 12 => ("PromiseDeskModel", "dataE", "[I", true)
  | 13 => ("PromiseDeskModel", "recordPromise", "[I", true)
  | 14 => ("PromiseDeskModel", "recordDone", "[Z", true)
  | 15 => ("PromiseDeskModel", "records", "I", false)
  | 16 => ("PromiseDeskModel", "reactionNext", "[I", true)
  | 17 => ("PromiseDeskModel", "reactionTo", "[I", true)
  | 18 => ("PromiseDeskModel", "yesKind", "[I", true)
  | 19 => ("PromiseDeskModel", "yesOf", "[I", true)
  | 20 => ("PromiseDeskModel", "noKind", "[I", true)
  | 21 => ("PromiseDeskModel", "noOf", "[I", true)
  | 22 => ("PromiseDeskModel", "reactionMany", "I", false)
  | 23 => ("PromiseDeskModel", "jobKind", "[I", true)
  | 24 => ("PromiseDeskModel", "jobOf", "[I", true)
  | 25 => ("PromiseDeskModel", "jobTo", "[I", true)
  | 26 => ("PromiseDeskModel", "jobArgument", "[I", true)
  | 27 => ("PromiseDeskModel", "jobRejects", "[Z", true)
  | 28 => ("PromiseDeskModel", "jobThen", "[Z", true)
  | 29 => ("PromiseDeskModel", "jobFirst", "I", false)
  | 30 => ("PromiseDeskModel", "jobEnd", "I", false)
  | 31 => ("PromiseDeskModel", "act", "[I", true)
  | 32 => ("PromiseDeskModel", "actValue", "[I", true)
  | 33 => ("PromiseDeskModel", "handlers", "I", false)
  | 34 => ("PromiseDeskModel", "logWho", "[I", true)
  | 35 => ("PromiseDeskModel", "logWhat", "[I", true)
  | 36 => ("PromiseDeskModel", "logs", "I", false)
  | 37 => ("PromiseDeskModel", "list", "[I", true)
  | 38 => ("PromiseDeskModel", "listed", "I", false)
  | 39 => ("PromiseDeskModel", "value", "[I", true)
  | 40 => ("PromiseDeskModel", "elementOf", "[I", true)
  | 41 => ("PromiseDeskModel", "elementDone", "[Z", true)
  | 42 => ("PromiseDeskModel", "values", "I", false)
  | 43 => ("PromiseDeskModel", "from", "[I", true)
  | 44 => ("PromiseDeskModel", "many", "[I", true)
  | 45 => ("PromiseDeskModel", "left", "[I", true)
  | 46 => ("PromiseDeskModel", "to", "[I", true)
  | 47 => ("PromiseDeskModel", "end", "[I", true)
  | 48 => ("PromiseDeskModel", "calls", "[I", true)
  | 49 => ("PromiseDeskModel", "at", "[I", true)
  | 50 => ("PromiseDeskModel", "groups", "I", false)
  | _ => ("PromiseDeskModel", "threw", "Z", false)
def tyX12 : Nat → FieldType := fun k => match k with
  | 0 => .int
  | 1 => .int
  | 2 => .array .int
  | 3 => .array .int
  | 4 => .array .int
  | 5 => .array .int
  | 6 => .array .int
  | 7 => .array .boolean
  | 8 => .array .int
  | 9 => .array .int
  | 10 => .array .int
  | 11 => .array .int
  | 12 => .array .int
  | 13 => .array .int
  | 14 => .array .boolean
  | 15 => .int
  | 16 => .array .int
  | 17 => .array .int
  | 18 => .array .int
  | 19 => .array .int
  | 20 => .array .int
  | 21 => .array .int
  | 22 => .int
  | 23 => .array .int
  | 24 => .array .int
  | 25 => .array .int
  | 26 => .array .int
  | 27 => .array .boolean
  | 28 => .array .boolean
  | 29 => .int
  | 30 => .int
  | 31 => .array .int
  | 32 => .array .int
  | 33 => .int
  | 34 => .array .int
  | 35 => .array .int
  | 36 => .int
  | 37 => .array .int
  | 38 => .int
  | 39 => .array .int
  | 40 => .array .int
  | 41 => .array .boolean
  | 42 => .int
  | 43 => .array .int
  | 44 => .array .int
  | 45 => .array .int
  | 46 => .array .int
  | 47 => .array .int
  | 48 => .array .int
  | 49 => .array .int
  | 50 => .int
  | _ => .boolean
theorem nmX12 : ∀ a, a < 52 → ∀ b, b < 52 → a ≠ b → (TX12 a).2.1 ≠ (TX12 b).2.1 := by decide +kernel
theorem tyX12_ok : ∀ k, k < 52 → parseFieldDescriptor (TX12 k).2.2.1 = some (tyX12 k) := by decide +kernel
abbrev cX12_init : ByteArray := prog_14_method_1_code
def yX12_init : MethodName := ⟨RX12, "<init>", "()V"⟩
abbrev cX12_thrown : ByteArray := prog_14_method_2_code
def yX12_thrown : MethodName := ⟨RX12, "thrown", "()I"⟩
abbrev cX12_fails : ByteArray := prog_14_method_3_code
def yX12_fails : MethodName := ⟨RX12, "fails", "(I)I"⟩
abbrev cX12_valueOf : ByteArray := prog_14_method_4_code
def yX12_valueOf : MethodName := ⟨RX12, "valueOf", "(I)I"⟩
abbrev cX12_isObject : ByteArray := prog_14_method_5_code
def yX12_isObject : MethodName := ⟨RX12, "isObject", "(I)Z"⟩
abbrev cX12_isValue : ByteArray := prog_14_method_6_code
def yX12_isValue : MethodName := ⟨RX12, "isValue", "(I)Z"⟩
abbrev cX12_isKind : ByteArray := prog_14_method_7_code
def yX12_isKind : MethodName := ⟨RX12, "isKind", "(II)Z"⟩
abbrev cX12_isHandler : ByteArray := prog_14_method_8_code
def yX12_isHandler : MethodName := ⟨RX12, "isHandler", "(I)Z"⟩
abbrev cX12_isFull : ByteArray := prog_14_method_9_code
def yX12_isFull : MethodName := ⟨RX12, "isFull", "(I)Z"⟩
abbrev cX12_newObject : ByteArray := prog_14_method_10_code
def yX12_newObject : MethodName := ⟨RX12, "newObject", "(I)I"⟩
abbrev cX12_record : ByteArray := prog_14_method_11_code
def yX12_record : MethodName := ⟨RX12, "record", "(I)I"⟩
abbrev cX12_capability : ByteArray := prog_14_method_12_code
def yX12_capability : MethodName := ⟨RX12, "capability", "()I"⟩
abbrev cX12_resolve : ByteArray := prog_14_method_13_code
def yX12_resolve : MethodName := ⟨RX12, "resolve", "(II)V"⟩
abbrev cX12_reject : ByteArray := prog_14_method_14_code
def yX12_reject : MethodName := ⟨RX12, "reject", "(II)V"⟩
abbrev cX12_settle : ByteArray := prog_14_method_15_code
def yX12_settle : MethodName := ⟨RX12, "settle", "(III)V"⟩
abbrev cX12_react : ByteArray := prog_14_method_16_code
def yX12_react : MethodName := ⟨RX12, "react", "(III)V"⟩
abbrev cX12_performThen : ByteArray := prog_14_method_17_code
def yX12_performThen : MethodName := ⟨RX12, "performThen", "(IIIIII)V"⟩
abbrev cX12_then : ByteArray := prog_14_method_18_code
def yX12_then : MethodName := ⟨RX12, "then", "(IIIII)I"⟩
abbrev cX12_promiseOf : ByteArray := prog_14_method_19_code
def yX12_promiseOf : MethodName := ⟨RX12, "promiseOf", "(I)I"⟩
abbrev cX12_note : ByteArray := prog_14_method_20_code
def yX12_note : MethodName := ⟨RX12, "note", "(II)V"⟩
abbrev cX12_handle : ByteArray := prog_14_method_21_code
def yX12_handle : MethodName := ⟨RX12, "handle", "(II)I"⟩
abbrev cX12_call : ByteArray := prog_14_method_22_code
def yX12_call : MethodName := ⟨RX12, "call", "(III)I"⟩
abbrev cX12_last : ByteArray := prog_14_method_23_code
def yX12_last : MethodName := ⟨RX12, "last", "(III)I"⟩
abbrev cX12_array : ByteArray := prog_14_method_24_code
def yX12_array : MethodName := ⟨RX12, "array", "(II)I"⟩
abbrev cX12_element : ByteArray := prog_14_method_25_code
def yX12_element : MethodName := ⟨RX12, "element", "(III)V"⟩
abbrev cX12_finish : ByteArray := prog_14_method_26_code
def yX12_finish : MethodName := ⟨RX12, "finish", "(IZ)V"⟩
abbrev cX12_job : ByteArray := prog_14_method_27_code
def yX12_job : MethodName := ⟨RX12, "job", "()V"⟩
abbrev cX12_thenJob : ByteArray := prog_14_method_28_code
def yX12_thenJob : MethodName := ⟨RX12, "thenJob", "(II)V"⟩
abbrev cX12_does : ByteArray := prog_14_method_29_code
def yX12_does : MethodName := ⟨RX12, "does", "(IIII)Z"⟩
abbrev cX12_goOn : ByteArray := prog_14_method_30_code
def yX12_goOn : MethodName := ⟨RX12, "goOn", "(I)V"⟩
abbrev cX12_resume : ByteArray := prog_14_method_31_code
def yX12_resume : MethodName := ⟨RX12, "resume", "(II)V"⟩
abbrev cX12_group : ByteArray := prog_14_method_32_code
def yX12_group : MethodName := ⟨RX12, "group", "()I"⟩
abbrev cX12_promise : ByteArray := prog_14_method_33_code
def yX12_promise : MethodName := ⟨RX12, "promise", "()I"⟩
abbrev cX12_isKept : ByteArray := prog_14_method_34_code
def yX12_isKept : MethodName := ⟨RX12, "isKept", "(I)Z"⟩
abbrev cX12_handler : ByteArray := prog_14_method_35_code
def yX12_handler : MethodName := ⟨RX12, "handler", "(II)I"⟩
abbrev cX12_thenable : ByteArray := prog_14_method_36_code
def yX12_thenable : MethodName := ⟨RX12, "thenable", "(IIIII)I"⟩
abbrev cX12_settle_ : ByteArray := prog_14_method_37_code
def yX12_settle_ : MethodName := ⟨RX12, "settle", "(IZI)Z"⟩
abbrev cX12_later : ByteArray := prog_14_method_38_code
def yX12_later : MethodName := ⟨RX12, "later", "(IZI)I"⟩
abbrev cX12_then_ : ByteArray := prog_14_method_39_code
def yX12_then_ : MethodName := ⟨RX12, "then", "(IIIZ)I"⟩
abbrev cX12_lastly : ByteArray := prog_14_method_40_code
def yX12_lastly : MethodName := ⟨RX12, "lastly", "(II)I"⟩
abbrev cX12_wrap : ByteArray := prog_14_method_41_code
def yX12_wrap : MethodName := ⟨RX12, "wrap", "(I)I"⟩
abbrev cX12_broken : ByteArray := prog_14_method_42_code
def yX12_broken : MethodName := ⟨RX12, "broken", "(I)I"⟩
abbrev cX12_item : ByteArray := prog_14_method_43_code
def yX12_item : MethodName := ⟨RX12, "item", "(I)I"⟩
abbrev cX12_combine : ByteArray := prog_14_method_44_code
def yX12_combine : MethodName := ⟨RX12, "combine", "(I)I"⟩
abbrev cX12_async : ByteArray := prog_14_method_45_code
def yX12_async : MethodName := ⟨RX12, "async", "(II)I"⟩
abbrev cX12_jobs : ByteArray := prog_14_method_46_code
def yX12_jobs : MethodName := ⟨RX12, "jobs", "(I)I"⟩
abbrev cX12_state : ByteArray := prog_14_method_47_code
def yX12_state : MethodName := ⟨RX12, "state", "(I)I"⟩
abbrev cX12_result : ByteArray := prog_14_method_48_code
def yX12_result : MethodName := ⟨RX12, "result", "(I)I"⟩
abbrev cX12_kind : ByteArray := prog_14_method_49_code
def yX12_kind : MethodName := ⟨RX12, "kind", "(I)I"⟩
abbrev cX12_part : ByteArray := prog_14_method_50_code
def yX12_part : MethodName := ⟨RX12, "part", "(II)I"⟩
abbrev cX12_log : ByteArray := prog_14_method_51_code
def yX12_log : MethodName := ⟨RX12, "log", "(IZ)I"⟩
abbrev cX12_count : ByteArray := prog_14_method_52_code
def yX12_count : MethodName := ⟨RX12, "count", "(I)I"⟩
def RJx145de : String := "java/io/Serializable"
def TJx145de : u_T := fun k => match k with
  | _ => ("", "", "", false)
def tyJx145de : Nat → FieldType := fun k => match k with
  | _ => .int
theorem nmJx145de : ∀ a, a < 0 → ∀ b, b < 0 → a ≠ b → (TJx145de a).2.1 ≠ (TJx145de b).2.1 := by decide +kernel
theorem tyJx145de_ok : ∀ k, k < 0 → parseFieldDescriptor (TJx145de k).2.2.1 = some (tyJx145de k) := by decide +kernel
def RJx8e188 : String := "java/lang/Cloneable"
def TJx8e188 : u_T := fun k => match k with
  | _ => ("", "", "", false)
def tyJx8e188 : Nat → FieldType := fun k => match k with
  | _ => .int
theorem nmJx8e188 : ∀ a, a < 0 → ∀ b, b < 0 → a ≠ b → (TJx8e188 a).2.1 ≠ (TJx8e188 b).2.1 := by decide +kernel
theorem tyJx8e188_ok : ∀ k, k < 0 → parseFieldDescriptor (TJx8e188 k).2.2.1 = some (tyJx8e188 k) := by decide +kernel
def RJxab1ab : String := "java/lang/Iterable"
def TJxab1ab : u_T := fun k => match k with
  | _ => ("", "", "", false)
def tyJxab1ab : Nat → FieldType := fun k => match k with
  | _ => .int
theorem nmJxab1ab : ∀ a, a < 0 → ∀ b, b < 0 → a ≠ b → (TJxab1ab a).2.1 ≠ (TJxab1ab b).2.1 := by decide +kernel
theorem tyJxab1ab_ok : ∀ k, k < 0 → parseFieldDescriptor (TJxab1ab k).2.2.1 = some (tyJxab1ab k) := by decide +kernel
def RJ9 : String := "java/lang/Math"
def TJ9 : u_T := fun k => match k with
  | _ => ("", "", "", false)
def tyJ9 : Nat → FieldType := fun k => match k with
  | _ => .int
theorem nmJ9 : ∀ a, a < 0 → ∀ b, b < 0 → a ≠ b → (TJ9 a).2.1 ≠ (TJ9 b).2.1 := by decide +kernel
theorem tyJ9_ok : ∀ k, k < 0 → parseFieldDescriptor (TJ9 k).2.2.1 = some (tyJ9 k) := by decide +kernel
abbrev cJ9_max_7cf53 : ByteArray := prog_21_method_65_code
def yJ9_max_7cf53 : MethodName := ⟨RJ9, "max", "(II)I"⟩
abbrev cJ9_min_7cf53 : ByteArray := prog_21_method_69_code
def yJ9_min_7cf53 : MethodName := ⟨RJ9, "min", "(II)I"⟩
def RJ0 : String := "java/lang/String"
def TJ0 : u_T := fun k => match k with
  | _ => ("", "", "", false)
def tyJ0 : Nat → FieldType := fun k => match k with
  | _ => .int
theorem nmJ0 : ∀ a, a < 0 → ∀ b, b < 0 → a ≠ b → (TJ0 a).2.1 ≠ (TJ0 b).2.1 := by decide +kernel
theorem tyJ0_ok : ∀ k, k < 0 → parseFieldDescriptor (TJ0 k).2.2.1 = some (tyJ0 k) := by decide +kernel
def RJ10 : String := "java/lang/System"
def TJ10 : u_T := fun k => match k with
  | _ => ("", "", "", false)
def tyJ10 : Nat → FieldType := fun k => match k with
  | _ => .int
theorem nmJ10 : ∀ a, a < 0 → ∀ b, b < 0 → a ≠ b → (TJ10 a).2.1 ≠ (TJ10 b).2.1 := by decide +kernel
theorem tyJ10_ok : ∀ k, k < 0 → parseFieldDescriptor (TJ10 k).2.2.1 = some (tyJ10 k) := by decide +kernel
def RJxa1e45 : String := "java/util/AbstractCollection"
def TJxa1e45 : u_T := fun k => match k with
  | _ => ("", "", "", false)
def tyJxa1e45 : Nat → FieldType := fun k => match k with
  | _ => .int
theorem nmJxa1e45 : ∀ a, a < 0 → ∀ b, b < 0 → a ≠ b → (TJxa1e45 a).2.1 ≠ (TJxa1e45 b).2.1 := by decide +kernel
theorem tyJxa1e45_ok : ∀ k, k < 0 → parseFieldDescriptor (TJxa1e45 k).2.2.1 = some (tyJxa1e45 k) := by decide +kernel
abbrev cJxa1e45_init_da8c8 : ByteArray := prog_26_method_1_code
def yJxa1e45_init_da8c8 : MethodName := ⟨RJxa1e45, "<init>", "()V"⟩
def RJxc12de : String := "java/util/AbstractList"
def TJxc12de : u_T := fun k => match k with
  | _ => ("", "", "", false)
def tyJxc12de : Nat → FieldType := fun k => match k with
  | _ => .int
theorem nmJxc12de : ∀ a, a < 0 → ∀ b, b < 0 → a ≠ b → (TJxc12de a).2.1 ≠ (TJxc12de b).2.1 := by decide +kernel
theorem tyJxc12de_ok : ∀ k, k < 0 → parseFieldDescriptor (TJxc12de k).2.2.1 = some (tyJxc12de k) := by decide +kernel
abbrev cJxc12de_init_da8c8 : ByteArray := prog_27_method_1_code
def yJxc12de_init_da8c8 : MethodName := ⟨RJxc12de, "<init>", "()V"⟩
def RJx4a65c : String := "java/util/ArrayList"
def TJx4a65c : u_T := fun k => match k with
  | 0 => ("java/util/AbstractList", "modCount", "I", false)
  | 1 => ("java/util/ArrayList", "elementData", "[Ljava/lang/Object;", false)
  | _ => ("java/util/ArrayList", "size", "I", false)
def tyJx4a65c : Nat → FieldType := fun k => match k with
  | 0 => .int
  | 1 => .array (.object "java/lang/Object")
  | _ => .int
theorem nmJx4a65c : ∀ a, a < 3 → ∀ b, b < 3 → a ≠ b → (TJx4a65c a).2.1 ≠ (TJx4a65c b).2.1 := by decide +kernel
theorem tyJx4a65c_ok : ∀ k, k < 3 → parseFieldDescriptor (TJx4a65c k).2.2.1 = some (tyJx4a65c k) := by decide +kernel
abbrev cJx4a65c_init_da8c8 : ByteArray := prog_28_method_2_code
def yJx4a65c_init_da8c8 : MethodName := ⟨RJx4a65c, "<init>", "()V"⟩
abbrev cJx4a65c_grow_92f84 : ByteArray := prog_28_method_6_code
def yJx4a65c_grow_92f84 : MethodName := ⟨RJx4a65c, "grow", "(I)[Ljava/lang/Object;"⟩
abbrev cJx4a65c_grow_d5877 : ByteArray := prog_28_method_7_code
def yJx4a65c_grow_d5877 : MethodName := ⟨RJx4a65c, "grow", "()[Ljava/lang/Object;"⟩
abbrev cJx4a65c_size_8abf5 : ByteArray := prog_28_method_8_code
def yJx4a65c_size_8abf5 : MethodName := ⟨RJx4a65c, "size", "()I"⟩
abbrev cJx4a65c_elementData_915e3 : ByteArray := prog_28_method_18_code
def yJx4a65c_elementData_915e3 : MethodName := ⟨RJx4a65c, "elementData", "(I)Ljava/lang/Object;"⟩
abbrev cJx4a65c_get_915e3 : ByteArray := prog_28_method_20_code
def yJx4a65c_get_915e3 : MethodName := ⟨RJx4a65c, "get", "(I)Ljava/lang/Object;"⟩
abbrev cJx4a65c_add_72be8 : ByteArray := prog_28_method_24_code
def yJx4a65c_add_72be8 : MethodName := ⟨RJx4a65c, "add", "(Ljava/lang/Object;[Ljava/lang/Object;I)V"⟩
abbrev cJx4a65c_add_9ea2d : ByteArray := prog_28_method_25_code
def yJx4a65c_add_9ea2d : MethodName := ⟨RJx4a65c, "add", "(Ljava/lang/Object;)Z"⟩
def RJ7 : String := "java/util/Arrays"
def TJ7 : u_T := fun k => match k with
  | _ => ("", "", "", false)
def tyJ7 : Nat → FieldType := fun k => match k with
  | _ => .int
theorem nmJ7 : ∀ a, a < 0 → ∀ b, b < 0 → a ≠ b → (TJ7 a).2.1 ≠ (TJ7 b).2.1 := by decide +kernel
theorem tyJ7_ok : ∀ k, k < 0 → parseFieldDescriptor (TJ7 k).2.2.1 = some (tyJ7 k) := by decide +kernel
abbrev cJ7_copyOf_1904c : ByteArray := prog_29_method_119_code
def yJ7_copyOf_1904c : MethodName := ⟨RJ7, "copyOf", "([Ljava/lang/Object;I)[Ljava/lang/Object;"⟩
abbrev cJ7_copyOf_6403c : ByteArray := prog_29_method_120_code
def yJ7_copyOf_6403c : MethodName := ⟨RJ7, "copyOf", "([Ljava/lang/Object;ILjava/lang/Class;)[Ljava/lang/Object;"⟩
abbrev cJ7_copyOf_59c91 : ByteArray := prog_29_method_123_code
def yJ7_copyOf_59c91 : MethodName := ⟨RJ7, "copyOf", "([II)[I"⟩
def RJx5ef63 : String := "java/util/Collection"
def TJx5ef63 : u_T := fun k => match k with
  | _ => ("", "", "", false)
def tyJx5ef63 : Nat → FieldType := fun k => match k with
  | _ => .int
theorem nmJx5ef63 : ∀ a, a < 0 → ∀ b, b < 0 → a ≠ b → (TJx5ef63 a).2.1 ≠ (TJx5ef63 b).2.1 := by decide +kernel
theorem tyJx5ef63_ok : ∀ k, k < 0 → parseFieldDescriptor (TJx5ef63 k).2.2.1 = some (tyJx5ef63 k) := by decide +kernel
def RJxbd725 : String := "java/util/List"
def TJxbd725 : u_T := fun k => match k with
  | _ => ("", "", "", false)
def tyJxbd725 : Nat → FieldType := fun k => match k with
  | _ => .int
theorem nmJxbd725 : ∀ a, a < 0 → ∀ b, b < 0 → a ≠ b → (TJxbd725 a).2.1 ≠ (TJxbd725 b).2.1 := by decide +kernel
theorem tyJxbd725_ok : ∀ k, k < 0 → parseFieldDescriptor (TJxbd725 k).2.2.1 = some (tyJxbd725 k) := by decide +kernel
def RJ15 : String := "java/util/Objects"
def TJ15 : u_T := fun k => match k with
  | _ => ("", "", "", false)
def tyJ15 : Nat → FieldType := fun k => match k with
  | _ => .int
theorem nmJ15 : ∀ a, a < 0 → ∀ b, b < 0 → a ≠ b → (TJ15 a).2.1 ≠ (TJ15 b).2.1 := by decide +kernel
theorem tyJ15_ok : ∀ k, k < 0 → parseFieldDescriptor (TJ15 k).2.2.1 = some (tyJ15 k) := by decide +kernel
abbrev cJ15_checkIndex_7cf53 : ByteArray := prog_32_method_17_code
def yJ15_checkIndex_7cf53 : MethodName := ⟨RJ15, "checkIndex", "(II)I"⟩
def RJxf0a74 : String := "java/util/RandomAccess"
def TJxf0a74 : u_T := fun k => match k with
  | _ => ("", "", "", false)
def tyJxf0a74 : Nat → FieldType := fun k => match k with
  | _ => .int
theorem nmJxf0a74 : ∀ a, a < 0 → ∀ b, b < 0 → a ≠ b → (TJxf0a74 a).2.1 ≠ (TJxf0a74 b).2.1 := by decide +kernel
theorem tyJxf0a74_ok : ∀ k, k < 0 → parseFieldDescriptor (TJxf0a74 k).2.2.1 = some (tyJxf0a74 k) := by decide +kernel
def RJxa66e6 : String := "java/util/SequencedCollection"
def TJxa66e6 : u_T := fun k => match k with
  | _ => ("", "", "", false)
def tyJxa66e6 : Nat → FieldType := fun k => match k with
  | _ => .int
theorem nmJxa66e6 : ∀ a, a < 0 → ∀ b, b < 0 → a ≠ b → (TJxa66e6 a).2.1 ≠ (TJxa66e6 b).2.1 := by decide +kernel
theorem tyJxa66e6_ok : ∀ k, k < 0 → parseFieldDescriptor (TJxa66e6 k).2.2.1 = some (tyJxa66e6 k) := by decide +kernel
def RJ8 : String := "jdk/internal/util/ArraysSupport"
def TJ8 : u_T := fun k => match k with
  | _ => ("", "", "", false)
def tyJ8 : Nat → FieldType := fun k => match k with
  | _ => .int
theorem nmJ8 : ∀ a, a < 0 → ∀ b, b < 0 → a ≠ b → (TJ8 a).2.1 ≠ (TJ8 b).2.1 := by decide +kernel
theorem tyJ8_ok : ∀ k, k < 0 → parseFieldDescriptor (TJ8 k).2.2.1 = some (tyJ8 k) := by decide +kernel
abbrev cJ8_newLength_cabcc : ByteArray := prog_35_method_27_code
def yJ8_newLength_cabcc : MethodName := ⟨RJ8, "newLength", "(III)I"⟩
abbrev cJ8_hugeLength_7cf53 : ByteArray := prog_35_method_28_code
def yJ8_hugeLength_7cf53 : MethodName := ⟨RJ8, "hugeLength", "(II)I"⟩
def RJ3 : String := "jdk/internal/util/Preconditions"
def TJ3 : u_T := fun k => match k with
  | _ => ("", "", "", false)
def tyJ3 : Nat → FieldType := fun k => match k with
  | _ => .int
theorem nmJ3 : ∀ a, a < 0 → ∀ b, b < 0 → a ≠ b → (TJ3 a).2.1 ≠ (TJ3 b).2.1 := by decide +kernel
theorem tyJ3_ok : ∀ k, k < 0 → parseFieldDescriptor (TJ3 k).2.2.1 = some (tyJ3 k) := by decide +kernel
abbrev cJ3_checkIndex_8e157 : ByteArray := prog_36_method_11_code
def yJ3_checkIndex_8e157 : MethodName := ⟨RJ3, "checkIndex", "(IILjava/util/function/BiFunction;)I"⟩
def RL : String := "PromiseDeskLaw"
abbrev cL_promise : ByteArray := method_3_code
def yL_promise : MethodName := ⟨RL, "promise", "(LPromiseDesk;[J)I"⟩
abbrev cL_handler : ByteArray := method_4_code
def yL_handler : MethodName := ⟨RL, "handler", "(LPromiseDesk;II[J)I"⟩
abbrev cL_thenable : ByteArray := method_5_code
def yL_thenable : MethodName := ⟨RL, "thenable", "(LPromiseDesk;IIIII[J)I"⟩
abbrev cL_settle : ByteArray := method_6_code
def yL_settle : MethodName := ⟨RL, "settle", "(LPromiseDesk;IZI[J)I"⟩
abbrev cL_later : ByteArray := method_7_code
def yL_later : MethodName := ⟨RL, "later", "(LPromiseDesk;IZI[J)I"⟩
abbrev cL_then : ByteArray := method_8_code
def yL_then : MethodName := ⟨RL, "then", "(LPromiseDesk;IIIZ[J)I"⟩
abbrev cL_lastly : ByteArray := method_9_code
def yL_lastly : MethodName := ⟨RL, "lastly", "(LPromiseDesk;II[J)I"⟩
abbrev cL_wrap : ByteArray := method_10_code
def yL_wrap : MethodName := ⟨RL, "wrap", "(LPromiseDesk;I[J)I"⟩
abbrev cL_broken : ByteArray := method_11_code
def yL_broken : MethodName := ⟨RL, "broken", "(LPromiseDesk;I[J)I"⟩
abbrev cL_item : ByteArray := method_12_code
def yL_item : MethodName := ⟨RL, "item", "(LPromiseDesk;I[J)I"⟩
abbrev cL_combine : ByteArray := method_13_code
def yL_combine : MethodName := ⟨RL, "combine", "(LPromiseDesk;I[J)I"⟩
abbrev cL_async : ByteArray := method_14_code
def yL_async : MethodName := ⟨RL, "async", "(LPromiseDesk;II[J)I"⟩
abbrev cL_jobs : ByteArray := method_15_code
def yL_jobs : MethodName := ⟨RL, "jobs", "(LPromiseDesk;I[J)I"⟩
abbrev cL_state : ByteArray := method_16_code
def yL_state : MethodName := ⟨RL, "state", "(LPromiseDesk;I[J)I"⟩
abbrev cL_result : ByteArray := method_17_code
def yL_result : MethodName := ⟨RL, "result", "(LPromiseDesk;I[J)I"⟩
abbrev cL_kind : ByteArray := method_18_code
def yL_kind : MethodName := ⟨RL, "kind", "(LPromiseDesk;I[J)I"⟩
abbrev cL_part : ByteArray := method_19_code
def yL_part : MethodName := ⟨RL, "part", "(LPromiseDesk;II[J)I"⟩
abbrev cL_count : ByteArray := method_20_code
def yL_count : MethodName := ⟨RL, "count", "(LPromiseDesk;I[J)I"⟩
abbrev cL_law : ByteArray := code
def yL_law : MethodName := ⟨RL, "law", "([I)Z"⟩
abbrev vwCl : List vw_C := [(RJx4a65c, TJx4a65c, 3), (RX0, TX0, 5), (RX1, TX1, 4), (RX2, TX2, 3), (RX4, TX4, 8), (RX5, TX5, 2), (RX6, TX6, 9), (RX7, TX7, 2), (RX8, TX8, 4), (RX9, TX9, 9), (RX10, TX10, 3), (RX11, TX11, 10), (RX12, TX12, 52)]
