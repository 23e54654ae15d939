def RX0 : String := "LabelKernel$EndpointRow"
def TX0 : u_T := fun k => match k with
  | 0 => ("LabelKernel$EndpointRow", "values", "[I", true)
  | 1 => ("LabelKernel$EndpointRow", "pluses", "[I", true)
  | 2 => ("LabelKernel$EndpointRow", "minuses", "[I", true)
  | 3 => ("LabelKernel$EndpointRow", "open", "Z", false)
  | 4 => ("LabelKernel$EndpointRow", "owner", "I", false)
  | 5 => ("LabelKernel$EndpointRow", "secrets", "I", false)
  | 6 => ("LabelKernel$EndpointRow", "seals", "I", false)
  | _ => ("LabelKernel$EndpointRow", "waiting", "I", false)
def tyX0 : Nat → FieldType := fun k => match k with
  | 0 => .array .int
  | 1 => .array .int
  | 2 => .array .int
  | 3 => .boolean
  | 4 => .int
  | 5 => .int
  | 6 => .int
  | _ => .int
abbrev wsX00 : List Cond := u_ws RX0 TX0 8
theorem nmX0 : ∀ a, a < 8 → ∀ b, b < 8 → a ≠ b → (TX0 a).2.1 ≠ (TX0 b).2.1 := by decide +kernel
theorem tyX0_ok : ∀ k, k < 8 → parseFieldDescriptor (TX0 k).2.2.1 = some (tyX0 k) := by decide +kernel
abbrev cX0_init : ByteArray := prog_2_method_1_code
def yX0_init : MethodName := ⟨RX0, "<init>", "()V"⟩
abbrev cX0_begin : ByteArray := prog_2_method_2_code
def yX0_begin : MethodName := ⟨RX0, "begin", "(III)V"⟩
abbrev cX0_hasRoom : ByteArray := prog_2_method_3_code
def yX0_hasRoom : MethodName := ⟨RX0, "hasRoom", "()Z"⟩
abbrev cX0_put : ByteArray := prog_2_method_4_code
def yX0_put : MethodName := ⟨RX0, "put", "(III)V"⟩
abbrev cX0_moveUp : ByteArray := prog_2_method_5_code
def yX0_moveUp : MethodName := ⟨RX0, "moveUp", "()V"⟩
def RX1 : String := "LabelKernel$ObjectRow"
def TX1 : u_T := fun k => match k with
  | 0 => ("LabelKernel$ObjectRow", "numbers", "[I", true)
  | 1 => ("LabelKernel$ObjectRow", "there", "Z", false)
  | 2 => ("LabelKernel$ObjectRow", "isContainer", "Z", false)
  | 3 => ("LabelKernel$ObjectRow", "home", "I", false)
  | 4 => ("LabelKernel$ObjectRow", "secrets", "I", false)
  | 5 => ("LabelKernel$ObjectRow", "seals", "I", false)
  | 6 => ("LabelKernel$ObjectRow", "blocks", "I", false)
  | 7 => ("LabelKernel$ObjectRow", "places", "I", false)
  | _ => ("LabelKernel$ObjectRow", "length", "I", false)
def tyX1 : Nat → FieldType := fun k => match k with
  | 0 => .array .int
  | 1 => .boolean
  | 2 => .boolean
  | 3 => .int
  | 4 => .int
  | 5 => .int
  | 6 => .int
  | 7 => .int
  | _ => .int
abbrev wsX10 : List Cond := u_ws RX1 TX1 9
theorem nmX1 : ∀ a, a < 9 → ∀ b, b < 9 → a ≠ b → (TX1 a).2.1 ≠ (TX1 b).2.1 := by decide +kernel
theorem tyX1_ok : ∀ k, k < 9 → parseFieldDescriptor (TX1 k).2.2.1 = some (tyX1 k) := by decide +kernel
abbrev cX1_init : ByteArray := prog_3_method_1_code
def yX1_init : MethodName := ⟨RX1, "<init>", "()V"⟩
abbrev cX1_begin : ByteArray := prog_3_method_2_code
def yX1_begin : MethodName := ⟨RX1, "begin", "(ZIIIII)V"⟩
abbrev cX1_blocksTaken : ByteArray := prog_3_method_3_code
def yX1_blocksTaken : MethodName := ⟨RX1, "blocksTaken", "()I"⟩
abbrev cX1_put : ByteArray := prog_3_method_4_code
def yX1_put : MethodName := ⟨RX1, "put", "(II)V"⟩
def RX2 : String := "LabelKernel$ProcessRow"
def TX2 : u_T := fun k => match k with
  | 0 => ("LabelKernel$ProcessRow", "alive", "Z", false)
  | 1 => ("LabelKernel$ProcessRow", "parent", "I", false)
  | 2 => ("LabelKernel$ProcessRow", "secrets", "I", false)
  | 3 => ("LabelKernel$ProcessRow", "seals", "I", false)
  | 4 => ("LabelKernel$ProcessRow", "plus", "I", false)
  | 5 => ("LabelKernel$ProcessRow", "minus", "I", false)
  | 6 => ("LabelKernel$ProcessRow", "takenValue", "I", false)
  | 7 => ("LabelKernel$ProcessRow", "takenPlus", "I", false)
  | _ => ("LabelKernel$ProcessRow", "takenMinus", "I", false)
def tyX2 : Nat → FieldType := fun k => match k with
  | 0 => .boolean
  | 1 => .int
  | 2 => .int
  | 3 => .int
  | 4 => .int
  | 5 => .int
  | 6 => .int
  | 7 => .int
  | _ => .int
abbrev wsX20 : List Cond := u_ws RX2 TX2 9
theorem nmX2 : ∀ a, a < 9 → ∀ b, b < 9 → a ≠ b → (TX2 a).2.1 ≠ (TX2 b).2.1 := by decide +kernel
theorem tyX2_ok : ∀ k, k < 9 → parseFieldDescriptor (TX2 k).2.2.1 = some (tyX2 k) := by decide +kernel
abbrev cX2_init : ByteArray := prog_4_method_1_code
def yX2_init : MethodName := ⟨RX2, "<init>", "()V"⟩
abbrev cX2_begin : ByteArray := prog_4_method_2_code
def yX2_begin : MethodName := ⟨RX2, "begin", "(IIIII)V"⟩
abbrev cX2_take : ByteArray := prog_4_method_3_code
def yX2_take : MethodName := ⟨RX2, "take", "(III)V"⟩
def RX3 : String := "LabelKernel"
def TX3 : u_T := fun k => match k with
  | 0 => ("LabelKernel", "processRows", "[LLabelKernel$ProcessRow;", true)
  | 1 => ("LabelKernel", "endpointRows", "[LLabelKernel$EndpointRow;", true)
  | 2 => ("LabelKernel", "objectRows", "[LLabelKernel$ObjectRow;", true)
  | 3 => ("LabelKernel", "tagsMade", "I", false)
  | 4 => ("LabelKernel", "processesMade", "I", false)
  | 5 => ("LabelKernel", "endpointsMade", "I", false)
  | 6 => ("LabelKernel", "objectsMade", "I", false)
  | 7 => ("LabelKernel", "everybodyPlus", "I", false)
  | 8 => ("LabelKernel", "everybodyMinus", "I", false)
  | 9 => ("LabelKernel", "messagesLost", "I", false)
  | 10 => ("LabelKernel", "entriesMade", "I", false)
  | 11 => ("LabelKernel", "crashTold", "I", false)
  | _ => ("LabelKernel", "crashesMet", "I", false)
def tyX3 : Nat → FieldType := fun k => match k with
  | 0 => .array (.object "LabelKernel$ProcessRow")
  | 1 => .array (.object "LabelKernel$EndpointRow")
  | 2 => .array (.object "LabelKernel$ObjectRow")
  | 3 => .int
  | 4 => .int
  | 5 => .int
  | 6 => .int
  | 7 => .int
  | 8 => .int
  | 9 => .int
  | 10 => .int
  | 11 => .int
  | _ => .int
abbrev wsX30 : List Cond := u_ws RX3 TX3 13
theorem nmX3 : ∀ a, a < 13 → ∀ b, b < 13 → a ≠ b → (TX3 a).2.1 ≠ (TX3 b).2.1 := by decide +kernel
theorem tyX3_ok : ∀ k, k < 13 → parseFieldDescriptor (TX3 k).2.2.1 = some (tyX3 k) := by decide +kernel
abbrev cX3_init : ByteArray := prog_1_method_1_code
def yX3_init : MethodName := ⟨RX3, "<init>", "()V"⟩
abbrev cX3_tag : ByteArray := prog_1_method_2_code
def yX3_tag : MethodName := ⟨RX3, "tag", "(II)I"⟩
abbrev cX3_everybody : ByteArray := prog_1_method_3_code
def yX3_everybody : MethodName := ⟨RX3, "everybody", "(I)I"⟩
abbrev cX3_told : ByteArray := prog_1_method_4_code
def yX3_told : MethodName := ⟨RX3, "told", "(II)I"⟩
abbrev cX3_label : ByteArray := prog_1_method_5_code
def yX3_label : MethodName := ⟨RX3, "label", "(III)I"⟩
abbrev cX3_drop : ByteArray := prog_1_method_6_code
def yX3_drop : MethodName := ⟨RX3, "drop", "(III)I"⟩
abbrev cX3_spawn : ByteArray := prog_1_method_7_code
def yX3_spawn : MethodName := ⟨RX3, "spawn", "(IIIII)I"⟩
abbrev cX3_exit : ByteArray := prog_1_method_8_code
def yX3_exit : MethodName := ⟨RX3, "exit", "(I)I"⟩
abbrev cX3_endpoint : ByteArray := prog_1_method_9_code
def yX3_endpoint : MethodName := ⟨RX3, "endpoint", "(III)I"⟩
abbrev cX3_close : ByteArray := prog_1_method_10_code
def yX3_close : MethodName := ⟨RX3, "close", "(II)I"⟩
abbrev cX3_port : ByteArray := prog_1_method_11_code
def yX3_port : MethodName := ⟨RX3, "port", "(II)I"⟩
abbrev cX3_send : ByteArray := prog_1_method_12_code
def yX3_send : MethodName := ⟨RX3, "send", "(IIIIII)I"⟩
abbrev cX3_receive : ByteArray := prog_1_method_13_code
def yX3_receive : MethodName := ⟨RX3, "receive", "(II)I"⟩
abbrev cX3_message : ByteArray := prog_1_method_14_code
def yX3_message : MethodName := ⟨RX3, "message", "(II)I"⟩
abbrev cX3_container : ByteArray := prog_1_method_15_code
def yX3_container : MethodName := ⟨RX3, "container", "(IIIIII)I"⟩
abbrev cX3_file : ByteArray := prog_1_method_16_code
def yX3_file : MethodName := ⟨RX3, "file", "(IIII)I"⟩
abbrev cX3_remove : ByteArray := prog_1_method_17_code
def yX3_remove : MethodName := ⟨RX3, "remove", "(II)I"⟩
abbrev cX3_write : ByteArray := prog_1_method_18_code
def yX3_write : MethodName := ⟨RX3, "write", "(IIII)I"⟩
abbrev cX3_append : ByteArray := prog_1_method_19_code
def yX3_append : MethodName := ⟨RX3, "append", "(IIII)I"⟩
abbrev cX3_read : ByteArray := prog_1_method_20_code
def yX3_read : MethodName := ⟨RX3, "read", "(III)I"⟩
abbrev cX3_object : ByteArray := prog_1_method_21_code
def yX3_object : MethodName := ⟨RX3, "object", "(III)I"⟩
abbrev cX3_list : ByteArray := prog_1_method_22_code
def yX3_list : MethodName := ⟨RX3, "list", "(III)I"⟩
abbrev cX3_crash : ByteArray := prog_1_method_23_code
def yX3_crash : MethodName := ⟨RX3, "crash", "(I)I"⟩
abbrev cX3_count : ByteArray := prog_1_method_24_code
def yX3_count : MethodName := ⟨RX3, "count", "(I)I"⟩
abbrev cX3_isWithin : ByteArray := prog_1_method_25_code
def yX3_isWithin : MethodName := ⟨RX3, "isWithin", "(II)Z"⟩
abbrev cX3_flows : ByteArray := prog_1_method_26_code
def yX3_flows : MethodName := ⟨RX3, "flows", "(IIII)Z"⟩
abbrev cX3_isSet : ByteArray := prog_1_method_27_code
def yX3_isSet : MethodName := ⟨RX3, "isSet", "(I)Z"⟩
abbrev cX3_both : ByteArray := prog_1_method_28_code
def yX3_both : MethodName := ⟨RX3, "both", "(II)I"⟩
abbrev cX3_isSafe : ByteArray := prog_1_method_29_code
def yX3_isSafe : MethodName := ⟨RX3, "isSafe", "(LLabelKernel$ProcessRow;II)Z"⟩
abbrev cX3_owns : ByteArray := prog_1_method_30_code
def yX3_owns : MethodName := ⟨RX3, "owns", "(LLabelKernel$ProcessRow;II)Z"⟩
abbrev cX3_canRead : ByteArray := prog_1_method_31_code
def yX3_canRead : MethodName := ⟨RX3, "canRead", "(LLabelKernel$ProcessRow;LLabelKernel$ObjectRow;)Z"⟩
abbrev cX3_canWrite : ByteArray := prog_1_method_32_code
def yX3_canWrite : MethodName := ⟨RX3, "canWrite", "(LLabelKernel$ProcessRow;LLabelKernel$ObjectRow;)Z"⟩
abbrev cX3_processAt : ByteArray := prog_1_method_33_code
def yX3_processAt : MethodName := ⟨RX3, "processAt", "(I)LLabelKernel$ProcessRow;"⟩
abbrev cX3_endpointAt : ByteArray := prog_1_method_34_code
def yX3_endpointAt : MethodName := ⟨RX3, "endpointAt", "(I)LLabelKernel$EndpointRow;"⟩
abbrev cX3_openEndpointsOf : ByteArray := prog_1_method_35_code
def yX3_openEndpointsOf : MethodName := ⟨RX3, "openEndpointsOf", "(I)I"⟩
abbrev cX3_closeEndpointsOf : ByteArray := prog_1_method_36_code
def yX3_closeEndpointsOf : MethodName := ⟨RX3, "closeEndpointsOf", "(I)V"⟩
abbrev cX3_endpointsFit : ByteArray := prog_1_method_37_code
def yX3_endpointsFit : MethodName := ⟨RX3, "endpointsFit", "(IIII)Z"⟩
abbrev cX3_livingProcesses : ByteArray := prog_1_method_38_code
def yX3_livingProcesses : MethodName := ⟨RX3, "livingProcesses", "()I"⟩
abbrev cX3_openEndpoints : ByteArray := prog_1_method_39_code
def yX3_openEndpoints : MethodName := ⟨RX3, "openEndpoints", "()I"⟩
abbrev cX3_objectAt : ByteArray := prog_1_method_40_code
def yX3_objectAt : MethodName := ⟨RX3, "objectAt", "(I)LLabelKernel$ObjectRow;"⟩
abbrev cX3_containerAt : ByteArray := prog_1_method_41_code
def yX3_containerAt : MethodName := ⟨RX3, "containerAt", "(I)LLabelKernel$ObjectRow;"⟩
abbrev cX3_fileAt : ByteArray := prog_1_method_42_code
def yX3_fileAt : MethodName := ⟨RX3, "fileAt", "(I)LLabelKernel$ObjectRow;"⟩
abbrev cX3_standsIn : ByteArray := prog_1_method_43_code
def yX3_standsIn : MethodName := ⟨RX3, "standsIn", "(II)Z"⟩
abbrev cX3_objectsThere : ByteArray := prog_1_method_44_code
def yX3_objectsThere : MethodName := ⟨RX3, "objectsThere", "()I"⟩
abbrev cX3_blocksLeft : ByteArray := prog_1_method_45_code
def yX3_blocksLeft : MethodName := ⟨RX3, "blocksLeft", "(I)I"⟩
abbrev cX3_placesLeft : ByteArray := prog_1_method_46_code
def yX3_placesLeft : MethodName := ⟨RX3, "placesLeft", "(I)I"⟩
abbrev cX3_blocksFor : ByteArray := prog_1_method_47_code
def yX3_blocksFor : MethodName := ⟨RX3, "blocksFor", "(I)I"⟩
abbrev cX3_mayMake : ByteArray := prog_1_method_48_code
def yX3_mayMake : MethodName := ⟨RX3, "mayMake", "(LLabelKernel$ProcessRow;LLabelKernel$ObjectRow;II)Z"⟩
abbrev cX3_make : ByteArray := prog_1_method_49_code
def yX3_make : MethodName := ⟨RX3, "make", "(ZIIIII)I"⟩
abbrev cX3_writeRun : ByteArray := prog_1_method_50_code
def yX3_writeRun : MethodName := ⟨RX3, "writeRun", "(LLabelKernel$ObjectRow;ZIII)I"⟩
abbrev cX3_hasRoomUpTo : ByteArray := prog_1_method_51_code
def yX3_hasRoomUpTo : MethodName := ⟨RX3, "hasRoomUpTo", "(LLabelKernel$ObjectRow;I)Z"⟩
abbrev cX3_isPartOf : ByteArray := prog_1_method_52_code
def yX3_isPartOf : MethodName := ⟨RX3, "isPartOf", "(II)Z"⟩
abbrev cX3_sizeOfTree : ByteArray := prog_1_method_53_code
def yX3_sizeOfTree : MethodName := ⟨RX3, "sizeOfTree", "(I)I"⟩
abbrev cX3_removeTree : ByteArray := prog_1_method_54_code
def yX3_removeTree : MethodName := ⟨RX3, "removeTree", "(I)V"⟩
abbrev cX3_enter : ByteArray := prog_1_method_55_code
def yX3_enter : MethodName := ⟨RX3, "enter", "(I)Z"⟩
abbrev cX3_outcome : ByteArray := prog_1_method_56_code
def yX3_outcome : MethodName := ⟨RX3, "outcome", "(I)I"⟩
abbrev cX3_startAnew : ByteArray := prog_1_method_57_code
def yX3_startAnew : MethodName := ⟨RX3, "startAnew", "()V"⟩
def RX4 : String := "LabelKernelModel"
def TX4 : u_T := fun k => match k with
  | 0 => ("LabelKernelModel", "tags", "I", false)
  | 1 => ("LabelKernelModel", "allPlus", "I", false)
  | 2 => ("LabelKernelModel", "allMinus", "I", false)
  | 3 => ("LabelKernelModel", "processes", "I", false)
  | 4 => ("LabelKernelModel", "runs", "[Z", true)
  | 5 => ("LabelKernelModel", "secrets", "[I", true)
  | 6 => ("LabelKernelModel", "seals", "[I", true)
  | 7 => ("LabelKernelModel", "plus", "[I", true)
  | 8 => ("LabelKernelModel", "minus", "[I", true)
  | 9 => ("LabelKernelModel", "parents", "[I", true)
  | 10 => ("LabelKernelModel", "taken", "[I", true)
  | 11 => ("LabelKernelModel", "endpoints", "I", false)
  | 12 => ("LabelKernelModel", "isOpen", "[Z", true)
  | 13 => ("LabelKernelModel", "owners", "[I", true)
  | 14 => ("LabelKernelModel", "portSecrets", "[I", true)
  | 15 => ("LabelKernelModel", "portSeals", "[I", true)
  | 16 => ("LabelKernelModel", "queued", "[I", true)
  | 17 => ("LabelKernelModel", "queues", "[I", true)
  | 18 => ("LabelKernelModel", "objects", "I", false)
  | 19 => ("LabelKernelModel", "isThere", "[Z", true)
  | 20 => ("LabelKernelModel", "isContainer", "[Z", true)
  | 21 => ("LabelKernelModel", "objectSecrets", "[I", true)
  | 22 => ("LabelKernelModel", "objectSeals", "[I", true)
  | 23 => ("LabelKernelModel", "in", "[I", true)
  | 24 => ("LabelKernelModel", "blocks", "[I", true)
  | 25 => ("LabelKernelModel", "rooms", "[I", true)
  | 26 => ("LabelKernelModel", "many", "[I", true)
  | 27 => ("LabelKernelModel", "numbers", "[I", true)
  | 28 => ("LabelKernelModel", "crash", "I", false)
  | 29 => ("LabelKernelModel", "entries", "I", false)
  | 30 => ("LabelKernelModel", "crashes", "I", false)
  | 31 => ("LabelKernelModel", "lost", "I", false)
  | _ => ("LabelKernelModel", "goesToo", "[Z", true)
def tyX4 : Nat → FieldType := fun k => match k with
  | 0 => .int
  | 1 => .int
  | 2 => .int
  | 3 => .int
  | 4 => .array .boolean
  | 5 => .array .int
  | 6 => .array .int
  | 7 => .array .int
  | 8 => .array .int
  | 9 => .array .int
  | 10 => .array .int
  | 11 => .int
  | 12 => .array .boolean
  | 13 => .array .int
  | 14 => .array .int
  | 15 => .array .int
  | 16 => .array .int
  | 17 => .array .int
  | 18 => .int
  | 19 => .array .boolean
  | 20 => .array .boolean
  | 21 => .array .int
  | 22 => .array .int
  | 23 => .array .int
  | 24 => .array .int
  | 25 => .array .int
  | 26 => .array .int
  | 27 => .array .int
  | 28 => .int
  | 29 => .int
  | 30 => .int
  | 31 => .int
  | _ => .array .boolean
abbrev wsX40 : List Cond := u_ws RX4 TX4 33
theorem nmX4 : ∀ a, a < 33 → ∀ b, b < 33 → a ≠ b → (TX4 a).2.1 ≠ (TX4 b).2.1 := by decide +kernel
theorem tyX4_ok : ∀ k, k < 33 → parseFieldDescriptor (TX4 k).2.2.1 = some (tyX4 k) := by decide +kernel
abbrev cX4_init : ByteArray := prog_6_method_1_code
def yX4_init : MethodName := ⟨RX4, "<init>", "()V"⟩
abbrev cX4_within : ByteArray := prog_6_method_3_code
def yX4_within : MethodName := ⟨RX4, "within", "(JJJ)Z"⟩
abbrev cX4_isProcess : ByteArray := prog_6_method_4_code
def yX4_isProcess : MethodName := ⟨RX4, "isProcess", "(I)Z"⟩
abbrev cX4_isSet : ByteArray := prog_6_method_5_code
def yX4_isSet : MethodName := ⟨RX4, "isSet", "(I)Z"⟩
abbrev cX4_isPort : ByteArray := prog_6_method_6_code
def yX4_isPort : MethodName := ⟨RX4, "isPort", "(I)Z"⟩
abbrev cX4_isObject : ByteArray := prog_6_method_7_code
def yX4_isObject : MethodName := ⟨RX4, "isObject", "(I)Z"⟩
abbrev cX4_begin : ByteArray := prog_6_method_8_code
def yX4_begin : MethodName := ⟨RX4, "begin", "()V"⟩
abbrev cX4_flows : ByteArray := prog_6_method_9_code
def yX4_flows : MethodName := ⟨RX4, "flows", "(IIII)Z"⟩
abbrev cX4_tag : ByteArray := prog_6_method_10_code
def yX4_tag : MethodName := ⟨RX4, "tag", "(II)I"⟩
abbrev cX4_everybody : ByteArray := prog_6_method_11_code
def yX4_everybody : MethodName := ⟨RX4, "everybody", "(I)I"⟩
abbrev cX4_openOf : ByteArray := prog_6_method_12_code
def yX4_openOf : MethodName := ⟨RX4, "openOf", "(I)I"⟩
abbrev cX4_bothOf : ByteArray := prog_6_method_13_code
def yX4_bothOf : MethodName := ⟨RX4, "bothOf", "(I)I"⟩
abbrev cX4_told : ByteArray := prog_6_method_14_code
def yX4_told : MethodName := ⟨RX4, "told", "(II)I"⟩
abbrev cX4_isSafe : ByteArray := prog_6_method_15_code
def yX4_isSafe : MethodName := ⟨RX4, "isSafe", "(III)Z"⟩
abbrev cX4_suits : ByteArray := prog_6_method_16_code
def yX4_suits : MethodName := ⟨RX4, "suits", "(III)Z"⟩
abbrev cX4_suitAll : ByteArray := prog_6_method_17_code
def yX4_suitAll : MethodName := ⟨RX4, "suitAll", "(I)Z"⟩
abbrev cX4_label : ByteArray := prog_6_method_18_code
def yX4_label : MethodName := ⟨RX4, "label", "(III)I"⟩
abbrev cX4_putLabel : ByteArray := prog_6_method_19_code
def yX4_putLabel : MethodName := ⟨RX4, "putLabel", "(III)V"⟩
abbrev cX4_drop : ByteArray := prog_6_method_20_code
def yX4_drop : MethodName := ⟨RX4, "drop", "(III)I"⟩
abbrev cX4_spawn : ByteArray := prog_6_method_21_code
def yX4_spawn : MethodName := ⟨RX4, "spawn", "(IIIII)I"⟩
abbrev cX4_exit : ByteArray := prog_6_method_22_code
def yX4_exit : MethodName := ⟨RX4, "exit", "(I)I"⟩
abbrev cX4_endpoint : ByteArray := prog_6_method_23_code
def yX4_endpoint : MethodName := ⟨RX4, "endpoint", "(III)I"⟩
abbrev cX4_close : ByteArray := prog_6_method_24_code
def yX4_close : MethodName := ⟨RX4, "close", "(II)I"⟩
abbrev cX4_port : ByteArray := prog_6_method_25_code
def yX4_port : MethodName := ⟨RX4, "port", "(II)I"⟩
abbrev cX4_send : ByteArray := prog_6_method_26_code
def yX4_send : MethodName := ⟨RX4, "send", "(IIIIII)I"⟩
abbrev cX4_receive : ByteArray := prog_6_method_27_code
def yX4_receive : MethodName := ⟨RX4, "receive", "(II)I"⟩
abbrev cX4_message : ByteArray := prog_6_method_28_code
def yX4_message : MethodName := ⟨RX4, "message", "(II)I"⟩
abbrev cX4_canWrite : ByteArray := prog_6_method_29_code
def yX4_canWrite : MethodName := ⟨RX4, "canWrite", "(II)Z"⟩
abbrev cX4_canRead : ByteArray := prog_6_method_30_code
def yX4_canRead : MethodName := ⟨RX4, "canRead", "(II)Z"⟩
abbrev cX4_blocksOf : ByteArray := prog_6_method_31_code
def yX4_blocksOf : MethodName := ⟨RX4, "blocksOf", "(I)I"⟩
abbrev cX4_blocksLeft : ByteArray := prog_6_method_32_code
def yX4_blocksLeft : MethodName := ⟨RX4, "blocksLeft", "(I)I"⟩
abbrev cX4_objectsLeft : ByteArray := prog_6_method_33_code
def yX4_objectsLeft : MethodName := ⟨RX4, "objectsLeft", "(I)I"⟩
abbrev cX4_goes : ByteArray := prog_6_method_34_code
def yX4_goes : MethodName := ⟨RX4, "goes", "(I)Z"⟩
abbrev cX4_answer : ByteArray := prog_6_method_35_code
def yX4_answer : MethodName := ⟨RX4, "answer", "(I)I"⟩
abbrev cX4_mayMake : ByteArray := prog_6_method_36_code
def yX4_mayMake : MethodName := ⟨RX4, "mayMake", "(IIII)Z"⟩
abbrev cX4_isRoomy : ByteArray := prog_6_method_37_code
def yX4_isRoomy : MethodName := ⟨RX4, "isRoomy", "(I)Z"⟩
abbrev cX4_make : ByteArray := prog_6_method_38_code
def yX4_make : MethodName := ⟨RX4, "make", "(IIIZII)I"⟩
abbrev cX4_container : ByteArray := prog_6_method_39_code
def yX4_container : MethodName := ⟨RX4, "container", "(IIIIII)I"⟩
abbrev cX4_file : ByteArray := prog_6_method_40_code
def yX4_file : MethodName := ⟨RX4, "file", "(IIII)I"⟩
abbrev cX4_remove : ByteArray := prog_6_method_41_code
def yX4_remove : MethodName := ⟨RX4, "remove", "(II)I"⟩
abbrev cX4_isFile : ByteArray := prog_6_method_42_code
def yX4_isFile : MethodName := ⟨RX4, "isFile", "(I)Z"⟩
abbrev cX4_write : ByteArray := prog_6_method_43_code
def yX4_write : MethodName := ⟨RX4, "write", "(IIII)I"⟩
abbrev cX4_append : ByteArray := prog_6_method_44_code
def yX4_append : MethodName := ⟨RX4, "append", "(IIII)I"⟩
abbrev cX4_read : ByteArray := prog_6_method_45_code
def yX4_read : MethodName := ⟨RX4, "read", "(III)I"⟩
abbrev cX4_object : ByteArray := prog_6_method_46_code
def yX4_object : MethodName := ⟨RX4, "object", "(III)I"⟩
abbrev cX4_list : ByteArray := prog_6_method_47_code
def yX4_list : MethodName := ⟨RX4, "list", "(III)I"⟩
abbrev cX4_crash : ByteArray := prog_6_method_48_code
def yX4_crash : MethodName := ⟨RX4, "crash", "(I)I"⟩
abbrev cX4_count : ByteArray := prog_6_method_49_code
def yX4_count : MethodName := ⟨RX4, "count", "(I)I"⟩
def RL : String := "LabelKernelLaw"
abbrev cL_law : ByteArray := code
def yL_law : MethodName := ⟨RL, "law", "([I)Z"⟩
abbrev vwCl : List vw_C := [(RX0, TX0, 8), (RX1, TX1, 9), (RX2, TX2, 9), (RX3, TX3, 13), (RX4, TX4, 33)]
theorem inX0 : ∀ w ∈ wsX00, w ∈ lw_tbl := by decide +kernel
theorem inX1 : ∀ w ∈ wsX10, w ∈ lw_tbl := by decide +kernel
theorem inX2 : ∀ w ∈ wsX20, w ∈ lw_tbl := by decide +kernel
theorem inX3 : ∀ w ∈ wsX30, w ∈ lw_tbl := by decide +kernel
theorem inX4 : ∀ w ∈ wsX40, w ∈ lw_tbl := by decide +kernel
theorem tz_L : Cond.initialized RL ∈ lw_tbl := List.mem_append_right _ (show _ ∈ tables_1_1 ++ (tables_1_2 ++ (tables_1_3 ++ tables_1_4)) from List.mem_append_left _ (List.mem_of_getElem? (l := tables_1_1) (i := 0) rfl))
theorem tz_X3 : Cond.initialized RX3 ∈ lw_tbl := List.mem_append_right _ (show _ ∈ tables_1_1 ++ (tables_1_2 ++ (tables_1_3 ++ tables_1_4)) from List.mem_append_left _ (List.mem_of_getElem? (l := tables_1_1) (i := 1) rfl))
theorem tz_X2 : Cond.initialized RX2 ∈ lw_tbl := List.mem_append_right _ (show _ ∈ tables_1_1 ++ (tables_1_2 ++ (tables_1_3 ++ tables_1_4)) from List.mem_append_left _ (List.mem_of_getElem? (l := tables_1_1) (i := 2) rfl))
theorem tz_X0 : Cond.initialized RX0 ∈ lw_tbl := List.mem_append_right _ (show _ ∈ tables_1_1 ++ (tables_1_2 ++ (tables_1_3 ++ tables_1_4)) from List.mem_append_left _ (List.mem_of_getElem? (l := tables_1_1) (i := 3) rfl))
theorem tz_X1 : Cond.initialized RX1 ∈ lw_tbl := List.mem_append_right _ (show _ ∈ tables_1_1 ++ (tables_1_2 ++ (tables_1_3 ++ tables_1_4)) from List.mem_append_left _ (List.mem_of_getElem? (l := tables_1_1) (i := 4) rfl))
theorem tz_X4 : Cond.initialized RX4 ∈ lw_tbl := List.mem_append_right _ (show _ ∈ tables_1_1 ++ (tables_1_2 ++ (tables_1_3 ++ tables_1_4)) from List.mem_append_left _ (List.mem_of_getElem? (l := tables_1_1) (i := 5) rfl))
theorem tz_Math : Cond.initialized "java/lang/Math" ∈ lw_tbl := List.mem_append_right _ (show _ ∈ tables_1_1 ++ (tables_1_2 ++ (tables_1_3 ++ tables_1_4)) from List.mem_append_left _ (List.mem_of_getElem? (l := tables_1_1) (i := 6) rfl))
theorem tl_L_7 : Cond.classLink RL 7 RX3 ∈ lw_tbl := List.mem_append_right _ (show _ ∈ tables_1_1 ++ (tables_1_2 ++ (tables_1_3 ++ tables_1_4)) from List.mem_append_left _ (List.mem_of_getElem? (l := tables_1_1) (i := 7) rfl))
theorem tn_X3 : Cond.instantiable RX3 13 ∈ lw_tbl := List.mem_append_right _ (show _ ∈ tables_1_1 ++ (tables_1_2 ++ (tables_1_3 ++ tables_1_4)) from List.mem_append_left _ (List.mem_of_getElem? (l := tables_1_1) (i := 8) rfl))
theorem tm_L_9 : Cond.methodLink RL 9 yX3_init ∈ lw_tbl := List.mem_append_right _ (show _ ∈ tables_1_1 ++ (tables_1_2 ++ (tables_1_3 ++ tables_1_4)) from List.mem_append_left _ (List.mem_of_getElem? (l := tables_1_1) (i := 9) rfl))
theorem ti_yX3_init : Cond.instanceMethod yX3_init ∈ lw_tbl := List.mem_append_right _ (show _ ∈ tables_1_1 ++ (tables_1_2 ++ (tables_1_3 ++ tables_1_4)) from List.mem_append_left _ (List.mem_of_getElem? (l := tables_1_1) (i := 10) rfl))
theorem tc_yX3_init : Cond.code yX3_init cX3_init 2 none ∈ lw_tbl := List.mem_append_right _ (show _ ∈ tables_1_1 ++ (tables_1_2 ++ (tables_1_3 ++ tables_1_4)) from List.mem_append_left _ (List.mem_of_getElem? (l := tables_1_1) (i := 11) rfl))
theorem tm_X3_1 : Cond.methodLink RX3 1 objectInit ∈ lw_tbl := List.mem_append_right _ (show _ ∈ tables_1_1 ++ (tables_1_2 ++ (tables_1_3 ++ tables_1_4)) from List.mem_append_left _ (List.mem_of_getElem? (l := tables_1_1) (i := 12) rfl))
theorem ti_objectInit : Cond.instanceMethod objectInit ∈ lw_tbl := List.mem_append_right _ (show _ ∈ tables_1_1 ++ (tables_1_2 ++ (tables_1_3 ++ tables_1_4)) from List.mem_append_left _ (List.mem_of_getElem? (l := tables_1_1) (i := 13) rfl))
theorem tc_objectInit : Cond.code objectInit object_method_1_code 1 none ∈ lw_tbl := List.mem_append_right _ (show _ ∈ tables_1_1 ++ (tables_1_2 ++ (tables_1_3 ++ tables_1_4)) from List.mem_append_left _ (List.mem_of_getElem? (l := tables_1_1) (i := 14) rfl))
theorem tl_X3_9 : Cond.classLink RX3 9 RX2 ∈ lw_tbl := List.mem_append_right _ (show _ ∈ tables_1_1 ++ (tables_1_2 ++ (tables_1_3 ++ tables_1_4)) from List.mem_append_left _ (List.mem_of_getElem? (l := tables_1_1) (i := 15) rfl))
theorem to_X2 : Cond.arrayOver (.object RX2) ∈ lw_tbl := List.mem_append_right _ (show _ ∈ tables_1_1 ++ (tables_1_2 ++ (tables_1_3 ++ tables_1_4)) from List.mem_append_left _ (List.mem_of_getElem? (l := tables_1_1) (i := 16) rfl))
theorem tn_X2 : Cond.instantiable RX2 9 ∈ lw_tbl := List.mem_append_right _ (show _ ∈ tables_1_1 ++ (tables_1_2 ++ (tables_1_3 ++ tables_1_4)) from List.mem_append_left _ (List.mem_of_getElem? (l := tables_1_1) (i := 17) rfl))
theorem tm_X3_15 : Cond.methodLinkNest RX3 15 yX2_init RX3 ∈ lw_tbl := List.mem_append_right _ (show _ ∈ tables_1_1 ++ (tables_1_2 ++ (tables_1_3 ++ tables_1_4)) from List.mem_append_left _ (List.mem_of_getElem? (l := tables_1_1) (i := 18) rfl))
theorem ti_yX2_init : Cond.instanceMethod yX2_init ∈ lw_tbl := List.mem_append_right _ (show _ ∈ tables_1_1 ++ (tables_1_2 ++ (tables_1_3 ++ tables_1_4)) from List.mem_append_left _ (List.mem_of_getElem? (l := tables_1_1) (i := 19) rfl))
theorem tc_yX2_init : Cond.code yX2_init cX2_init 1 none ∈ lw_tbl := List.mem_append_right _ (show _ ∈ tables_1_1 ++ (tables_1_2 ++ (tables_1_3 ++ tables_1_4)) from List.mem_append_left _ (List.mem_of_getElem? (l := tables_1_1) (i := 20) rfl))
theorem tm_X2_1 : Cond.methodLink RX2 1 objectInit ∈ lw_tbl := List.mem_append_right _ (show _ ∈ tables_1_1 ++ (tables_1_2 ++ (tables_1_3 ++ tables_1_4)) from List.mem_append_left _ (List.mem_of_getElem? (l := tables_1_1) (i := 21) rfl))
theorem tf_X2_7 : Cond.fieldLink RX2 7 RX2 "alive" "Z" ∈ lw_tbl := List.mem_append_right _ (show _ ∈ tables_1_1 ++ (tables_1_2 ++ (tables_1_3 ++ tables_1_4)) from List.mem_append_left _ (List.mem_of_getElem? (l := tables_1_1) (i := 22) rfl))
theorem tf_X3_102 : Cond.fieldLinkNest RX3 102 RX2 "alive" "Z" RX3 ∈ lw_tbl := List.mem_append_right _ (show _ ∈ tables_1_1 ++ (tables_1_2 ++ (tables_1_3 ++ tables_1_4)) from List.mem_append_left _ (List.mem_of_getElem? (l := tables_1_1) (i := 23) rfl))
theorem tf_X2_13 : Cond.fieldLink RX2 13 RX2 "parent" "I" ∈ lw_tbl := List.mem_append_right _ (show _ ∈ tables_1_1 ++ (tables_1_2 ++ (tables_1_3 ++ tables_1_4)) from List.mem_append_left _ (List.mem_of_getElem? (l := tables_1_1) (i := 24) rfl))
theorem tf_X3_75 : Cond.fieldLinkNest RX3 75 RX2 "parent" "I" RX3 ∈ lw_tbl := List.mem_append_right _ (show _ ∈ tables_1_1 ++ (tables_1_2 ++ (tables_1_3 ++ tables_1_4)) from List.mem_append_left _ (List.mem_of_getElem? (l := tables_1_1) (i := 25) rfl))
theorem tf_X2_17 : Cond.fieldLink RX2 17 RX2 "secrets" "I" ∈ lw_tbl := List.mem_append_right _ (show _ ∈ tables_1_1 ++ (tables_1_2 ++ (tables_1_3 ++ tables_1_4)) from List.mem_append_left _ (List.mem_of_getElem? (l := tables_1_1) (i := 26) rfl))
theorem tf_X3_69 : Cond.fieldLinkNest RX3 69 RX2 "secrets" "I" RX3 ∈ lw_tbl := List.mem_append_right _ (show _ ∈ tables_1_1 ++ (tables_1_2 ++ (tables_1_3 ++ tables_1_4)) from List.mem_append_left _ (List.mem_of_getElem? (l := tables_1_1) (i := 27) rfl))
theorem tf_X2_20 : Cond.fieldLink RX2 20 RX2 "seals" "I" ∈ lw_tbl := List.mem_append_right _ (show _ ∈ tables_1_1 ++ (tables_1_2 ++ (tables_1_3 ++ tables_1_4)) from List.mem_append_left _ (List.mem_of_getElem? (l := tables_1_1) (i := 28) rfl))
theorem tf_X3_72 : Cond.fieldLinkNest RX3 72 RX2 "seals" "I" RX3 ∈ lw_tbl := List.mem_append_right _ (show _ ∈ tables_1_1 ++ (tables_1_2 ++ (tables_1_3 ++ tables_1_4)) from List.mem_append_left _ (List.mem_of_getElem? (l := tables_1_1) (i := 29) rfl))
theorem tf_X2_23 : Cond.fieldLink RX2 23 RX2 "plus" "I" ∈ lw_tbl := List.mem_append_right _ (show _ ∈ tables_1_1 ++ (tables_1_2 ++ (tables_1_3 ++ tables_1_4)) from List.mem_append_left _ (List.mem_of_getElem? (l := tables_1_1) (i := 30) rfl))
theorem tf_X3_60 : Cond.fieldLinkNest RX3 60 RX2 "plus" "I" RX3 ∈ lw_tbl := List.mem_append_right _ (show _ ∈ tables_1_1 ++ (tables_1_2 ++ (tables_1_3 ++ tables_1_4)) from List.mem_append_left _ (List.mem_of_getElem? (l := tables_1_1) (i := 31) rfl))
theorem tf_X2_26 : Cond.fieldLink RX2 26 RX2 "minus" "I" ∈ lw_tbl := List.mem_append_right _ (show _ ∈ tables_1_1 ++ (tables_1_2 ++ (tables_1_3 ++ tables_1_4)) from List.mem_append_left _ (List.mem_of_getElem? (l := tables_1_1) (i := 32) rfl))
theorem tf_X3_66 : Cond.fieldLinkNest RX3 66 RX2 "minus" "I" RX3 ∈ lw_tbl := List.mem_append_right _ (show _ ∈ tables_1_1 ++ (tables_1_2 ++ (tables_1_3 ++ tables_1_4)) from List.mem_append_left _ (List.mem_of_getElem? (l := tables_1_1) (i := 33) rfl))
theorem tf_X2_29 : Cond.fieldLink RX2 29 RX2 "takenValue" "I" ∈ lw_tbl := List.mem_append_right _ (show _ ∈ tables_1_1 ++ (tables_1_2 ++ (tables_1_3 ++ tables_1_4)) from List.mem_append_left _ (List.mem_of_getElem? (l := tables_1_1) (i := 34) rfl))
theorem tf_X3_164 : Cond.fieldLinkNest RX3 164 RX2 "takenValue" "I" RX3 ∈ lw_tbl := List.mem_append_right _ (show _ ∈ tables_1_1 ++ (tables_1_2 ++ (tables_1_3 ++ tables_1_4)) from List.mem_append_left _ (List.mem_of_getElem? (l := tables_1_1) (i := 35) rfl))
theorem tf_X2_32 : Cond.fieldLink RX2 32 RX2 "takenPlus" "I" ∈ lw_tbl := List.mem_append_right _ (show _ ∈ tables_1_1 ++ (tables_1_2 ++ (tables_1_3 ++ tables_1_4)) from List.mem_append_left _ (List.mem_of_getElem? (l := tables_1_1) (i := 36) rfl))
theorem tf_X3_167 : Cond.fieldLinkNest RX3 167 RX2 "takenPlus" "I" RX3 ∈ lw_tbl := List.mem_append_right _ (show _ ∈ tables_1_1 ++ (tables_1_2 ++ (tables_1_3 ++ tables_1_4)) from List.mem_append_left _ (List.mem_of_getElem? (l := tables_1_1) (i := 37) rfl))
theorem tf_X2_35 : Cond.fieldLink RX2 35 RX2 "takenMinus" "I" ∈ lw_tbl := List.mem_append_right _ (show _ ∈ tables_1_1 ++ (tables_1_2 ++ (tables_1_3 ++ tables_1_4)) from List.mem_append_left _ (List.mem_of_getElem? (l := tables_1_1) (i := 38) rfl))
theorem tf_X3_170 : Cond.fieldLinkNest RX3 170 RX2 "takenMinus" "I" RX3 ∈ lw_tbl := List.mem_append_right _ (show _ ∈ tables_1_1 ++ (tables_1_2 ++ (tables_1_3 ++ tables_1_4)) from List.mem_append_left _ (List.mem_of_getElem? (l := tables_1_1) (i := 39) rfl))
theorem tl_X3_16 : Cond.classLink RX3 16 RX0 ∈ lw_tbl := List.mem_append_right _ (show _ ∈ tables_1_1 ++ (tables_1_2 ++ (tables_1_3 ++ tables_1_4)) from List.mem_append_left _ (List.mem_of_getElem? (l := tables_1_1) (i := 59) rfl))
theorem to_X0 : Cond.arrayOver (.object RX0) ∈ lw_tbl := List.mem_append_right _ (show _ ∈ tables_1_1 ++ (tables_1_2 ++ (tables_1_3 ++ tables_1_4)) from List.mem_append_left _ (List.mem_of_getElem? (l := tables_1_1) (i := 60) rfl))
theorem tn_X0 : Cond.instantiable RX0 8 ∈ lw_tbl := List.mem_append_right _ (show _ ∈ tables_1_1 ++ (tables_1_2 ++ (tables_1_3 ++ tables_1_4)) from List.mem_append_left _ (List.mem_of_getElem? (l := tables_1_1) (i := 61) rfl))
theorem tm_X3_22 : Cond.methodLinkNest RX3 22 yX0_init RX3 ∈ lw_tbl := List.mem_append_right _ (show _ ∈ tables_1_1 ++ (tables_1_2 ++ (tables_1_3 ++ tables_1_4)) from List.mem_append_left _ (List.mem_of_getElem? (l := tables_1_1) (i := 62) rfl))
theorem ti_yX0_init : Cond.instanceMethod yX0_init ∈ lw_tbl := List.mem_append_right _ (show _ ∈ tables_1_1 ++ (tables_1_2 ++ (tables_1_3 ++ tables_1_4)) from List.mem_append_left _ (List.mem_of_getElem? (l := tables_1_1) (i := 63) rfl))
theorem tc_yX0_init : Cond.code yX0_init cX0_init 1 none ∈ lw_tbl := List.mem_append_right _ (show _ ∈ tables_1_1 ++ (tables_1_2 ++ (tables_1_3 ++ tables_1_4)) from List.mem_append_left _ (List.mem_of_getElem? (l := tables_1_1) (i := 64) rfl))
theorem tm_X0_3 : Cond.methodLink RX0 3 objectInit ∈ lw_tbl := List.mem_append_right _ (show _ ∈ tables_1_1 ++ (tables_1_2 ++ (tables_1_3 ++ tables_1_4)) from List.mem_append_left _ (List.mem_of_getElem? (l := tables_1_1) (i := 65) rfl))
theorem tf_X0_9 : Cond.fieldLink RX0 9 RX0 "values" "[I" ∈ lw_tbl := List.mem_append_right _ (show _ ∈ tables_1_1 ++ (tables_1_2 ++ (tables_1_3 ++ tables_1_4)) from List.mem_append_left _ (List.mem_of_getElem? (l := tables_1_1) (i := 66) rfl))
theorem tf_X3_148 : Cond.fieldLinkNest RX3 148 RX0 "values" "[I" RX3 ∈ lw_tbl := List.mem_append_right _ (show _ ∈ tables_1_1 ++ (tables_1_2 ++ (tables_1_3 ++ tables_1_4)) from List.mem_append_left _ (List.mem_of_getElem? (l := tables_1_1) (i := 67) rfl))
theorem tf_X0_15 : Cond.fieldLink RX0 15 RX0 "pluses" "[I" ∈ lw_tbl := List.mem_append_right _ (show _ ∈ tables_1_1 ++ (tables_1_2 ++ (tables_1_3 ++ tables_1_4)) from List.mem_append_left _ (List.mem_of_getElem? (l := tables_1_1) (i := 68) rfl))
theorem tf_X3_152 : Cond.fieldLinkNest RX3 152 RX0 "pluses" "[I" RX3 ∈ lw_tbl := List.mem_append_right _ (show _ ∈ tables_1_1 ++ (tables_1_2 ++ (tables_1_3 ++ tables_1_4)) from List.mem_append_left _ (List.mem_of_getElem? (l := tables_1_1) (i := 69) rfl))
theorem tf_X0_18 : Cond.fieldLink RX0 18 RX0 "minuses" "[I" ∈ lw_tbl := List.mem_append_right _ (show _ ∈ tables_1_1 ++ (tables_1_2 ++ (tables_1_3 ++ tables_1_4)) from List.mem_append_left _ (List.mem_of_getElem? (l := tables_1_1) (i := 70) rfl))
theorem tf_X3_155 : Cond.fieldLinkNest RX3 155 RX0 "minuses" "[I" RX3 ∈ lw_tbl := List.mem_append_right _ (show _ ∈ tables_1_1 ++ (tables_1_2 ++ (tables_1_3 ++ tables_1_4)) from List.mem_append_left _ (List.mem_of_getElem? (l := tables_1_1) (i := 71) rfl))
theorem tf_X0_21 : Cond.fieldLink RX0 21 RX0 "open" "Z" ∈ lw_tbl := List.mem_append_right _ (show _ ∈ tables_1_1 ++ (tables_1_2 ++ (tables_1_3 ++ tables_1_4)) from List.mem_append_left _ (List.mem_of_getElem? (l := tables_1_1) (i := 72) rfl))
theorem tf_X3_127 : Cond.fieldLinkNest RX3 127 RX0 "open" "Z" RX3 ∈ lw_tbl := List.mem_append_right _ (show _ ∈ tables_1_1 ++ (tables_1_2 ++ (tables_1_3 ++ tables_1_4)) from List.mem_append_left _ (List.mem_of_getElem? (l := tables_1_1) (i := 73) rfl))
theorem tf_X0_25 : Cond.fieldLink RX0 25 RX0 "owner" "I" ∈ lw_tbl := List.mem_append_right _ (show _ ∈ tables_1_1 ++ (tables_1_2 ++ (tables_1_3 ++ tables_1_4)) from List.mem_append_left _ (List.mem_of_getElem? (l := tables_1_1) (i := 74) rfl))
theorem tf_X3_124 : Cond.fieldLinkNest RX3 124 RX0 "owner" "I" RX3 ∈ lw_tbl := List.mem_append_right _ (show _ ∈ tables_1_1 ++ (tables_1_2 ++ (tables_1_3 ++ tables_1_4)) from List.mem_append_left _ (List.mem_of_getElem? (l := tables_1_1) (i := 75) rfl))
theorem tf_X0_29 : Cond.fieldLink RX0 29 RX0 "secrets" "I" ∈ lw_tbl := List.mem_append_right _ (show _ ∈ tables_1_1 ++ (tables_1_2 ++ (tables_1_3 ++ tables_1_4)) from List.mem_append_left _ (List.mem_of_getElem? (l := tables_1_1) (i := 76) rfl))
theorem tf_X3_133 : Cond.fieldLinkNest RX3 133 RX0 "secrets" "I" RX3 ∈ lw_tbl := List.mem_append_right _ (show _ ∈ tables_1_1 ++ (tables_1_2 ++ (tables_1_3 ++ tables_1_4)) from List.mem_append_left _ (List.mem_of_getElem? (l := tables_1_1) (i := 77) rfl))
theorem tf_X0_32 : Cond.fieldLink RX0 32 RX0 "seals" "I" ∈ lw_tbl := List.mem_append_right _ (show _ ∈ tables_1_1 ++ (tables_1_2 ++ (tables_1_3 ++ tables_1_4)) from List.mem_append_left _ (List.mem_of_getElem? (l := tables_1_1) (i := 78) rfl))
theorem tf_X3_134 : Cond.fieldLinkNest RX3 134 RX0 "seals" "I" RX3 ∈ lw_tbl := List.mem_append_right _ (show _ ∈ tables_1_1 ++ (tables_1_2 ++ (tables_1_3 ++ tables_1_4)) from List.mem_append_left _ (List.mem_of_getElem? (l := tables_1_1) (i := 79) rfl))
theorem tf_X0_35 : Cond.fieldLink RX0 35 RX0 "waiting" "I" ∈ lw_tbl := List.mem_append_right _ (show _ ∈ tables_1_1 ++ (tables_1_2 ++ (tables_1_3 ++ tables_1_4)) from List.mem_append_left _ (List.mem_of_getElem? (l := tables_1_1) (i := 80) rfl))
theorem tf_X3_130 : Cond.fieldLinkNest RX3 130 RX0 "waiting" "I" RX3 ∈ lw_tbl := List.mem_append_right _ (show _ ∈ tables_1_1 ++ (tables_1_2 ++ (tables_1_3 ++ tables_1_4)) from List.mem_append_left _ (List.mem_of_getElem? (l := tables_1_1) (i := 81) rfl))
theorem ta_int : Cond.arrayClass .int ∈ lw_tbl := List.mem_append_right _ (show _ ∈ tables_1_1 ++ (tables_1_2 ++ (tables_1_3 ++ tables_1_4)) from List.mem_append_left _ (List.mem_of_getElem? (l := tables_1_1) (i := 99) rfl))
theorem tl_X3_23 : Cond.classLink RX3 23 RX1 ∈ lw_tbl := List.mem_append_right _ (show _ ∈ tables_1_1 ++ (tables_1_2 ++ (tables_1_3 ++ tables_1_4)) from List.mem_append_left _ (List.mem_of_getElem? (l := tables_1_1) (i := 100) rfl))
theorem to_X1 : Cond.arrayOver (.object RX1) ∈ lw_tbl := List.mem_append_right _ (show _ ∈ tables_1_1 ++ (tables_1_2 ++ (tables_1_3 ++ tables_1_4)) from List.mem_append_left _ (List.mem_of_getElem? (l := tables_1_1) (i := 101) rfl))
theorem tn_X1 : Cond.instantiable RX1 9 ∈ lw_tbl := List.mem_append_right _ (show _ ∈ tables_1_1 ++ (tables_1_2 ++ (tables_1_3 ++ tables_1_4)) from List.mem_append_left _ (List.mem_of_getElem? (l := tables_1_1) (i := 102) rfl))
theorem tm_X3_29 : Cond.methodLinkNest RX3 29 yX1_init RX3 ∈ lw_tbl := List.mem_append_right _ (show _ ∈ tables_1_1 ++ (tables_1_2 ++ (tables_1_3 ++ tables_1_4)) from List.mem_append_left _ (List.mem_of_getElem? (l := tables_1_1) (i := 103) rfl))
theorem ti_yX1_init : Cond.instanceMethod yX1_init ∈ lw_tbl := List.mem_append_right _ (show _ ∈ tables_1_1 ++ (tables_1_2 ++ (tables_1_3 ++ tables_1_4)) from List.mem_append_left _ (List.mem_of_getElem? (l := tables_1_1) (i := 104) rfl))
theorem tc_yX1_init : Cond.code yX1_init cX1_init 1 none ∈ lw_tbl := List.mem_append_right _ (show _ ∈ tables_1_1 ++ (tables_1_2 ++ (tables_1_3 ++ tables_1_4)) from List.mem_append_left _ (List.mem_of_getElem? (l := tables_1_1) (i := 105) rfl))
theorem tm_X1_3 : Cond.methodLink RX1 3 objectInit ∈ lw_tbl := List.mem_append_right _ (show _ ∈ tables_1_1 ++ (tables_1_2 ++ (tables_1_3 ++ tables_1_4)) from List.mem_append_left _ (List.mem_of_getElem? (l := tables_1_1) (i := 106) rfl))
theorem tf_X1_9 : Cond.fieldLink RX1 9 RX1 "numbers" "[I" ∈ lw_tbl := List.mem_append_right _ (show _ ∈ tables_1_1 ++ (tables_1_2 ++ (tables_1_3 ++ tables_1_4)) from List.mem_append_left _ (List.mem_of_getElem? (l := tables_1_1) (i := 107) rfl))
theorem tf_X3_226 : Cond.fieldLinkNest RX3 226 RX1 "numbers" "[I" RX3 ∈ lw_tbl := List.mem_append_right _ (show _ ∈ tables_1_1 ++ (tables_1_2 ++ (tables_1_3 ++ tables_1_4)) from List.mem_append_left _ (List.mem_of_getElem? (l := tables_1_1) (i := 108) rfl))
theorem tf_X1_15 : Cond.fieldLink RX1 15 RX1 "there" "Z" ∈ lw_tbl := List.mem_append_right _ (show _ ∈ tables_1_1 ++ (tables_1_2 ++ (tables_1_3 ++ tables_1_4)) from List.mem_append_left _ (List.mem_of_getElem? (l := tables_1_1) (i := 109) rfl))
theorem tf_X3_253 : Cond.fieldLinkNest RX3 253 RX1 "there" "Z" RX3 ∈ lw_tbl := List.mem_append_right _ (show _ ∈ tables_1_1 ++ (tables_1_2 ++ (tables_1_3 ++ tables_1_4)) from List.mem_append_left _ (List.mem_of_getElem? (l := tables_1_1) (i := 110) rfl))
theorem tf_X1_19 : Cond.fieldLink RX1 19 RX1 "isContainer" "Z" ∈ lw_tbl := List.mem_append_right _ (show _ ∈ tables_1_1 ++ (tables_1_2 ++ (tables_1_3 ++ tables_1_4)) from List.mem_append_left _ (List.mem_of_getElem? (l := tables_1_1) (i := 111) rfl))
theorem tf_X3_229 : Cond.fieldLinkNest RX3 229 RX1 "isContainer" "Z" RX3 ∈ lw_tbl := List.mem_append_right _ (show _ ∈ tables_1_1 ++ (tables_1_2 ++ (tables_1_3 ++ tables_1_4)) from List.mem_append_left _ (List.mem_of_getElem? (l := tables_1_1) (i := 112) rfl))
theorem tf_X1_22 : Cond.fieldLink RX1 22 RX1 "home" "I" ∈ lw_tbl := List.mem_append_right _ (show _ ∈ tables_1_1 ++ (tables_1_2 ++ (tables_1_3 ++ tables_1_4)) from List.mem_append_left _ (List.mem_of_getElem? (l := tables_1_1) (i := 113) rfl))
theorem tf_X3_194 : Cond.fieldLinkNest RX3 194 RX1 "home" "I" RX3 ∈ lw_tbl := List.mem_append_right _ (show _ ∈ tables_1_1 ++ (tables_1_2 ++ (tables_1_3 ++ tables_1_4)) from List.mem_append_left _ (List.mem_of_getElem? (l := tables_1_1) (i := 114) rfl))
theorem tf_X1_26 : Cond.fieldLink RX1 26 RX1 "secrets" "I" ∈ lw_tbl := List.mem_append_right _ (show _ ∈ tables_1_1 ++ (tables_1_2 ++ (tables_1_3 ++ tables_1_4)) from List.mem_append_left _ (List.mem_of_getElem? (l := tables_1_1) (i := 115) rfl))
theorem tf_X3_232 : Cond.fieldLinkNest RX3 232 RX1 "secrets" "I" RX3 ∈ lw_tbl := List.mem_append_right _ (show _ ∈ tables_1_1 ++ (tables_1_2 ++ (tables_1_3 ++ tables_1_4)) from List.mem_append_left _ (List.mem_of_getElem? (l := tables_1_1) (i := 116) rfl))
theorem tf_X1_29 : Cond.fieldLink RX1 29 RX1 "seals" "I" ∈ lw_tbl := List.mem_append_right _ (show _ ∈ tables_1_1 ++ (tables_1_2 ++ (tables_1_3 ++ tables_1_4)) from List.mem_append_left _ (List.mem_of_getElem? (l := tables_1_1) (i := 117) rfl))
theorem tf_X3_233 : Cond.fieldLinkNest RX3 233 RX1 "seals" "I" RX3 ∈ lw_tbl := List.mem_append_right _ (show _ ∈ tables_1_1 ++ (tables_1_2 ++ (tables_1_3 ++ tables_1_4)) from List.mem_append_left _ (List.mem_of_getElem? (l := tables_1_1) (i := 118) rfl))
theorem tf_X1_32 : Cond.fieldLink RX1 32 RX1 "blocks" "I" ∈ lw_tbl := List.mem_append_right _ (show _ ∈ tables_1_1 ++ (tables_1_2 ++ (tables_1_3 ++ tables_1_4)) from List.mem_append_left _ (List.mem_of_getElem? (l := tables_1_1) (i := 119) rfl))
theorem tf_X3_256 : Cond.fieldLinkNest RX3 256 RX1 "blocks" "I" RX3 ∈ lw_tbl := List.mem_append_right _ (show _ ∈ tables_1_1 ++ (tables_1_2 ++ (tables_1_3 ++ tables_1_4)) from List.mem_append_left _ (List.mem_of_getElem? (l := tables_1_1) (i := 120) rfl))
theorem tf_X1_35 : Cond.fieldLink RX1 35 RX1 "places" "I" ∈ lw_tbl := List.mem_append_right _ (show _ ∈ tables_1_1 ++ (tables_1_2 ++ (tables_1_3 ++ tables_1_4)) from List.mem_append_left _ (List.mem_of_getElem? (l := tables_1_1) (i := 121) rfl))
theorem tf_X3_262 : Cond.fieldLinkNest RX3 262 RX1 "places" "I" RX3 ∈ lw_tbl := List.mem_append_right _ (show _ ∈ tables_1_1 ++ (tables_1_2 ++ (tables_1_3 ++ tables_1_4)) from List.mem_append_left _ (List.mem_of_getElem? (l := tables_1_1) (i := 122) rfl))
theorem tf_X1_38 : Cond.fieldLink RX1 38 RX1 "length" "I" ∈ lw_tbl := List.mem_append_right _ (show _ ∈ tables_1_1 ++ (tables_1_2 ++ (tables_1_3 ++ tables_1_4)) from List.mem_append_left _ (List.mem_of_getElem? (l := tables_1_1) (i := 123) rfl))
theorem tf_X3_219 : Cond.fieldLinkNest RX3 219 RX1 "length" "I" RX3 ∈ lw_tbl := List.mem_append_right _ (show _ ∈ tables_1_1 ++ (tables_1_2 ++ (tables_1_3 ++ tables_1_4)) from List.mem_append_left _ (List.mem_of_getElem? (l := tables_1_1) (i := 124) rfl))
theorem tm_X3_30 : Cond.methodLinkNest RX3 30 yX2_begin RX3 ∈ lw_tbl := List.mem_append_right _ (show _ ∈ tables_1_1 ++ (tables_1_2 ++ (tables_1_3 ++ tables_1_4)) from List.mem_append_left _ (List.mem_of_getElem? (l := tables_1_1) (i := 144) rfl))
theorem ti_yX2_begin : Cond.instanceMethod yX2_begin ∈ lw_tbl := List.mem_append_right _ (show _ ∈ tables_1_1 ++ (tables_1_2 ++ (tables_1_3 ++ tables_1_4)) from List.mem_append_left _ (List.mem_of_getElem? (l := tables_1_1) (i := 146) rfl))
theorem tc_yX2_begin : Cond.code yX2_begin cX2_begin 6 none ∈ lw_tbl := List.mem_append_right _ (show _ ∈ tables_1_1 ++ (tables_1_2 ++ (tables_1_3 ++ tables_1_4)) from List.mem_append_left _ (List.mem_of_getElem? (l := tables_1_1) (i := 147) rfl))
theorem tm_X3_38 : Cond.methodLinkNest RX3 38 yX1_begin RX3 ∈ lw_tbl := List.mem_append_right _ (show _ ∈ tables_1_1 ++ (tables_1_2 ++ (tables_1_3 ++ tables_1_4)) from List.mem_append_left _ (List.mem_of_getElem? (l := tables_1_1) (i := 148) rfl))
theorem ti_yX1_begin : Cond.instanceMethod yX1_begin ∈ lw_tbl := List.mem_append_right _ (show _ ∈ tables_1_1 ++ (tables_1_2 ++ (tables_1_3 ++ tables_1_4)) from List.mem_append_left _ (List.mem_of_getElem? (l := tables_1_1) (i := 150) rfl))
theorem tc_yX1_begin : Cond.code yX1_begin cX1_begin 7 none ∈ lw_tbl := List.mem_append_right _ (show _ ∈ tables_1_1 ++ (tables_1_2 ++ (tables_1_3 ++ tables_1_4)) from List.mem_append_left _ (List.mem_of_getElem? (l := tables_1_1) (i := 151) rfl))
theorem tf_X3_11 : Cond.fieldLink RX3 11 RX3 "processRows" "[LLabelKernel$ProcessRow;" ∈ lw_tbl := List.mem_append_right _ (show _ ∈ tables_1_1 ++ (tables_1_2 ++ (tables_1_3 ++ tables_1_4)) from List.mem_append_left _ (List.mem_of_getElem? (l := tables_1_1) (i := 152) rfl))
theorem tf_X3_18 : Cond.fieldLink RX3 18 RX3 "endpointRows" "[LLabelKernel$EndpointRow;" ∈ lw_tbl := List.mem_append_right _ (show _ ∈ tables_1_1 ++ (tables_1_2 ++ (tables_1_3 ++ tables_1_4)) from List.mem_append_left _ (List.mem_of_getElem? (l := tables_1_1) (i := 153) rfl))
theorem tf_X3_25 : Cond.fieldLink RX3 25 RX3 "objectRows" "[LLabelKernel$ObjectRow;" ∈ lw_tbl := List.mem_append_right _ (show _ ∈ tables_1_1 ++ (tables_1_2 ++ (tables_1_3 ++ tables_1_4)) from List.mem_append_left _ (List.mem_of_getElem? (l := tables_1_1) (i := 154) rfl))
theorem tf_X3_53 : Cond.fieldLink RX3 53 RX3 "tagsMade" "I" ∈ lw_tbl := List.mem_append_right _ (show _ ∈ tables_1_1 ++ (tables_1_2 ++ (tables_1_3 ++ tables_1_4)) from List.mem_append_left _ (List.mem_of_getElem? (l := tables_1_1) (i := 155) rfl))
theorem tf_X3_34 : Cond.fieldLink RX3 34 RX3 "processesMade" "I" ∈ lw_tbl := List.mem_append_right _ (show _ ∈ tables_1_1 ++ (tables_1_2 ++ (tables_1_3 ++ tables_1_4)) from List.mem_append_left _ (List.mem_of_getElem? (l := tables_1_1) (i := 156) rfl))
theorem tf_X3_114 : Cond.fieldLink RX3 114 RX3 "endpointsMade" "I" ∈ lw_tbl := List.mem_append_right _ (show _ ∈ tables_1_1 ++ (tables_1_2 ++ (tables_1_3 ++ tables_1_4)) from List.mem_append_left _ (List.mem_of_getElem? (l := tables_1_1) (i := 157) rfl))
theorem tf_X3_41 : Cond.fieldLink RX3 41 RX3 "objectsMade" "I" ∈ lw_tbl := List.mem_append_right _ (show _ ∈ tables_1_1 ++ (tables_1_2 ++ (tables_1_3 ++ tables_1_4)) from List.mem_append_left _ (List.mem_of_getElem? (l := tables_1_1) (i := 158) rfl))
theorem tf_X3_57 : Cond.fieldLink RX3 57 RX3 "everybodyPlus" "I" ∈ lw_tbl := List.mem_append_right _ (show _ ∈ tables_1_1 ++ (tables_1_2 ++ (tables_1_3 ++ tables_1_4)) from List.mem_append_left _ (List.mem_of_getElem? (l := tables_1_1) (i := 159) rfl))
theorem tf_X3_63 : Cond.fieldLink RX3 63 RX3 "everybodyMinus" "I" ∈ lw_tbl := List.mem_append_right _ (show _ ∈ tables_1_1 ++ (tables_1_2 ++ (tables_1_3 ++ tables_1_4)) from List.mem_append_left _ (List.mem_of_getElem? (l := tables_1_1) (i := 160) rfl))
theorem tf_X3_145 : Cond.fieldLink RX3 145 RX3 "messagesLost" "I" ∈ lw_tbl := List.mem_append_right _ (show _ ∈ tables_1_1 ++ (tables_1_2 ++ (tables_1_3 ++ tables_1_4)) from List.mem_append_left _ (List.mem_of_getElem? (l := tables_1_1) (i := 161) rfl))
theorem tf_X3_247 : Cond.fieldLink RX3 247 RX3 "entriesMade" "I" ∈ lw_tbl := List.mem_append_right _ (show _ ∈ tables_1_1 ++ (tables_1_2 ++ (tables_1_3 ++ tables_1_4)) from List.mem_append_left _ (List.mem_of_getElem? (l := tables_1_1) (i := 162) rfl))
theorem tf_X3_44 : Cond.fieldLink RX3 44 RX3 "crashTold" "I" ∈ lw_tbl := List.mem_append_right _ (show _ ∈ tables_1_1 ++ (tables_1_2 ++ (tables_1_3 ++ tables_1_4)) from List.mem_append_left _ (List.mem_of_getElem? (l := tables_1_1) (i := 163) rfl))
theorem tf_X3_250 : Cond.fieldLink RX3 250 RX3 "crashesMet" "I" ∈ lw_tbl := List.mem_append_right _ (show _ ∈ tables_1_1 ++ (tables_1_2 ++ (tables_1_3 ++ tables_1_4)) from List.mem_append_left _ (List.mem_of_getElem? (l := tables_1_1) (i := 164) rfl))
theorem tm_L_13 : Cond.methodLink RL 13 yX3_tag ∈ lw_tbl := List.mem_append_right _ (show _ ∈ tables_1_1 ++ (tables_1_2 ++ (tables_1_3 ++ tables_1_4)) from List.mem_append_left _ (List.mem_of_getElem? (l := tables_1_1) (i := 192) rfl))
theorem ti_yX3_tag : Cond.instanceMethod yX3_tag ∈ lw_tbl := List.mem_append_right _ (show _ ∈ tables_1_1 ++ (tables_1_2 ++ (tables_1_3 ++ tables_1_4)) from List.mem_append_left _ (List.mem_of_getElem? (l := tables_1_1) (i := 193) rfl))
theorem te_yX3_tag : Cond.selects RX3 yX3_tag yX3_tag ∈ lw_tbl := List.mem_append_right _ (show _ ∈ tables_1_1 ++ (tables_1_2 ++ (tables_1_3 ++ tables_1_4)) from List.mem_append_left _ (List.mem_of_getElem? (l := tables_1_1) (i := 194) rfl))
theorem tc_yX3_tag : Cond.code yX3_tag cX3_tag 5 (some .int) ∈ lw_tbl := List.mem_append_right _ (show _ ∈ tables_1_1 ++ (tables_1_2 ++ (tables_1_3 ++ tables_1_4)) from List.mem_append_left _ (List.mem_of_getElem? (l := tables_1_1) (i := 195) rfl))
theorem tm_X3_47 : Cond.methodLink RX3 47 yX3_processAt ∈ lw_tbl := List.mem_append_right _ (show _ ∈ tables_1_1 ++ (tables_1_2 ++ (tables_1_3 ++ tables_1_4)) from List.mem_append_left _ (List.mem_of_getElem? (l := tables_1_1) (i := 196) rfl))
theorem ti_yX3_processAt : Cond.instanceMethod yX3_processAt ∈ lw_tbl := List.mem_append_right _ (show _ ∈ tables_1_1 ++ (tables_1_2 ++ (tables_1_3 ++ tables_1_4)) from List.mem_append_left _ (List.mem_of_getElem? (l := tables_1_1) (i := 198) rfl))
theorem tc_yX3_processAt : Cond.code yX3_processAt cX3_processAt 2 (some (.object "LabelKernel$ProcessRow")) ∈ lw_tbl := List.mem_append_right _ (show _ ∈ tables_1_1 ++ (tables_1_2 ++ (tables_1_3 ++ tables_1_4)) from List.mem_append_left _ (List.mem_of_getElem? (l := tables_1_1) (i := 199) rfl))
theorem tk_X3_51 : Cond.constant RX3 51 (-1000001) ∈ lw_tbl := List.mem_append_right _ (show _ ∈ tables_1_1 ++ (tables_1_2 ++ (tables_1_3 ++ tables_1_4)) from List.mem_append_left _ (List.mem_of_getElem? (l := tables_1_1) (i := 200) rfl))
theorem tk_X3_52 : Cond.constant RX3 52 (-1000002) ∈ lw_tbl := List.mem_append_right _ (show _ ∈ tables_1_1 ++ (tables_1_2 ++ (tables_1_3 ++ tables_1_4)) from List.mem_append_left _ (List.mem_of_getElem? (l := tables_1_1) (i := 201) rfl))
theorem tk_X3_56 : Cond.constant RX3 56 (-1000004) ∈ lw_tbl := List.mem_append_right _ (show _ ∈ tables_1_1 ++ (tables_1_2 ++ (tables_1_3 ++ tables_1_4)) from List.mem_append_left _ (List.mem_of_getElem? (l := tables_1_1) (i := 202) rfl))
theorem tm_L_18 : Cond.methodLink RL 18 yX3_everybody ∈ lw_tbl := List.mem_append_right _ (show _ ∈ tables_1_1 ++ (tables_1_2 ++ (tables_1_3 ++ tables_1_4)) from List.mem_append_left _ (List.mem_of_getElem? (l := tables_1_1) (i := 203) rfl))
theorem ti_yX3_everybody : Cond.instanceMethod yX3_everybody ∈ lw_tbl := List.mem_append_right _ (show _ ∈ tables_1_1 ++ (tables_1_2 ++ (tables_1_3 ++ tables_1_4)) from List.mem_append_left _ (List.mem_of_getElem? (l := tables_1_1) (i := 204) rfl))
theorem te_yX3_everybody : Cond.selects RX3 yX3_everybody yX3_everybody ∈ lw_tbl := List.mem_append_right _ (show _ ∈ tables_1_1 ++ (tables_1_2 ++ (tables_1_3 ++ tables_1_4)) from List.mem_append_left _ (List.mem_of_getElem? (l := tables_1_1) (i := 205) rfl))
theorem tc_yX3_everybody : Cond.code yX3_everybody cX3_everybody 2 (some .int) ∈ lw_tbl := List.mem_append_right _ (show _ ∈ tables_1_1 ++ (tables_1_2 ++ (tables_1_3 ++ tables_1_4)) from List.mem_append_left _ (List.mem_of_getElem? (l := tables_1_1) (i := 206) rfl))
theorem tm_L_23 : Cond.methodLink RL 23 yX3_told ∈ lw_tbl := List.mem_append_right _ (show _ ∈ tables_1_1 ++ (tables_1_2 ++ (tables_1_3 ++ tables_1_4)) from List.mem_append_left _ (List.mem_of_getElem? (l := tables_1_1) (i := 207) rfl))
theorem ti_yX3_told : Cond.instanceMethod yX3_told ∈ lw_tbl := List.mem_append_right _ (show _ ∈ tables_1_1 ++ (tables_1_2 ++ (tables_1_3 ++ tables_1_4)) from List.mem_append_left _ (List.mem_of_getElem? (l := tables_1_1) (i := 208) rfl))
theorem te_yX3_told : Cond.selects RX3 yX3_told yX3_told ∈ lw_tbl := List.mem_append_right _ (show _ ∈ tables_1_1 ++ (tables_1_2 ++ (tables_1_3 ++ tables_1_4)) from List.mem_append_left _ (List.mem_of_getElem? (l := tables_1_1) (i := 209) rfl))
theorem tc_yX3_told : Cond.code yX3_told cX3_told 4 (some .int) ∈ lw_tbl := List.mem_append_right _ (show _ ∈ tables_1_1 ++ (tables_1_2 ++ (tables_1_3 ++ tables_1_4)) from List.mem_append_left _ (List.mem_of_getElem? (l := tables_1_1) (i := 210) rfl))
theorem tm_X3_78 : Cond.methodLink RX3 78 yX3_openEndpointsOf ∈ lw_tbl := List.mem_append_right _ (show _ ∈ tables_1_1 ++ (tables_1_2 ++ (tables_1_3 ++ tables_1_4)) from List.mem_append_left _ (List.mem_of_getElem? (l := tables_1_1) (i := 211) rfl))
theorem ti_yX3_openEndpointsOf : Cond.instanceMethod yX3_openEndpointsOf ∈ lw_tbl := List.mem_append_right _ (show _ ∈ tables_1_1 ++ (tables_1_2 ++ (tables_1_3 ++ tables_1_4)) from List.mem_append_left _ (List.mem_of_getElem? (l := tables_1_1) (i := 213) rfl))
theorem tc_yX3_openEndpointsOf : Cond.code yX3_openEndpointsOf cX3_openEndpointsOf 4 (some .int) ∈ lw_tbl := List.mem_append_right _ (show _ ∈ tables_1_1 ++ (tables_1_2 ++ (tables_1_3 ++ tables_1_4)) from List.mem_append_left _ (List.mem_of_getElem? (l := tables_1_1) (i := 214) rfl))
theorem tm_X3_82 : Cond.methodLink RX3 82 yX3_both ∈ lw_tbl := List.mem_append_right _ (show _ ∈ tables_1_1 ++ (tables_1_2 ++ (tables_1_3 ++ tables_1_4)) from List.mem_append_left _ (List.mem_of_getElem? (l := tables_1_1) (i := 215) rfl))
theorem ti_yX3_both : Cond.instanceMethod yX3_both ∈ lw_tbl := List.mem_append_right _ (show _ ∈ tables_1_1 ++ (tables_1_2 ++ (tables_1_3 ++ tables_1_4)) from List.mem_append_left _ (List.mem_of_getElem? (l := tables_1_1) (i := 217) rfl))
theorem tc_yX3_both : Cond.code yX3_both cX3_both 3 (some .int) ∈ lw_tbl := List.mem_append_right _ (show _ ∈ tables_1_1 ++ (tables_1_2 ++ (tables_1_3 ++ tables_1_4)) from List.mem_append_left _ (List.mem_of_getElem? (l := tables_1_1) (i := 218) rfl))
theorem tm_L_27 : Cond.methodLink RL 27 yX3_label ∈ lw_tbl := List.mem_append_right _ (show _ ∈ tables_1_1 ++ (tables_1_2 ++ (tables_1_3 ++ tables_1_4)) from List.mem_append_left _ (List.mem_of_getElem? (l := tables_1_1) (i := 219) rfl))
theorem ti_yX3_label : Cond.instanceMethod yX3_label ∈ lw_tbl := List.mem_append_right _ (show _ ∈ tables_1_1 ++ (tables_1_2 ++ (tables_1_3 ++ tables_1_4)) from List.mem_append_left _ (List.mem_of_getElem? (l := tables_1_1) (i := 220) rfl))
theorem te_yX3_label : Cond.selects RX3 yX3_label yX3_label ∈ lw_tbl := List.mem_append_right _ (show _ ∈ tables_1_1 ++ (tables_1_2 ++ (tables_1_3 ++ tables_1_4)) from List.mem_append_left _ (List.mem_of_getElem? (l := tables_1_1) (i := 221) rfl))
theorem tc_yX3_label : Cond.code yX3_label cX3_label 8 (some .int) ∈ lw_tbl := List.mem_append_right _ (show _ ∈ tables_1_1 ++ (tables_1_2 ++ (tables_1_3 ++ tables_1_4)) from List.mem_append_left _ (List.mem_of_getElem? (l := tables_1_1) (i := 222) rfl))
theorem tm_X3_86 : Cond.methodLink RX3 86 yX3_isSet ∈ lw_tbl := List.mem_append_right _ (show _ ∈ tables_1_1 ++ (tables_1_2 ++ (tables_1_3 ++ tables_1_4)) from List.mem_append_left _ (List.mem_of_getElem? (l := tables_1_1) (i := 223) rfl))
theorem ti_yX3_isSet : Cond.instanceMethod yX3_isSet ∈ lw_tbl := List.mem_append_right _ (show _ ∈ tables_1_1 ++ (tables_1_2 ++ (tables_1_3 ++ tables_1_4)) from List.mem_append_left _ (List.mem_of_getElem? (l := tables_1_1) (i := 225) rfl))
theorem tc_yX3_isSet : Cond.code yX3_isSet cX3_isSet 2 (some .boolean) ∈ lw_tbl := List.mem_append_right _ (show _ ∈ tables_1_1 ++ (tables_1_2 ++ (tables_1_3 ++ tables_1_4)) from List.mem_append_left _ (List.mem_of_getElem? (l := tables_1_1) (i := 226) rfl))
theorem tm_X3_90 : Cond.methodLink RX3 90 yX3_isSafe ∈ lw_tbl := List.mem_append_right _ (show _ ∈ tables_1_1 ++ (tables_1_2 ++ (tables_1_3 ++ tables_1_4)) from List.mem_append_left _ (List.mem_of_getElem? (l := tables_1_1) (i := 227) rfl))
theorem ti_yX3_isSafe : Cond.instanceMethod yX3_isSafe ∈ lw_tbl := List.mem_append_right _ (show _ ∈ tables_1_1 ++ (tables_1_2 ++ (tables_1_3 ++ tables_1_4)) from List.mem_append_left _ (List.mem_of_getElem? (l := tables_1_1) (i := 229) rfl))
theorem tc_yX3_isSafe : Cond.code yX3_isSafe cX3_isSafe 4 (some .boolean) ∈ lw_tbl := List.mem_append_right _ (show _ ∈ tables_1_1 ++ (tables_1_2 ++ (tables_1_3 ++ tables_1_4)) from List.mem_append_left _ (List.mem_of_getElem? (l := tables_1_1) (i := 230) rfl))
theorem tm_X3_110 : Cond.methodLink RX3 110 yX3_isWithin ∈ lw_tbl := List.mem_append_right _ (show _ ∈ tables_1_1 ++ (tables_1_2 ++ (tables_1_3 ++ tables_1_4)) from List.mem_append_left _ (List.mem_of_getElem? (l := tables_1_1) (i := 231) rfl))
theorem ts_yX3_isWithin : Cond.static yX3_isWithin ∈ lw_tbl := List.mem_append_right _ (show _ ∈ tables_1_1 ++ (tables_1_2 ++ (tables_1_3 ++ tables_1_4)) from List.mem_append_left _ (List.mem_of_getElem? (l := tables_1_1) (i := 232) rfl))
theorem tc_yX3_isWithin : Cond.code yX3_isWithin cX3_isWithin 2 (some .boolean) ∈ lw_tbl := List.mem_append_right _ (show _ ∈ tables_1_1 ++ (tables_1_2 ++ (tables_1_3 ++ tables_1_4)) from List.mem_append_left _ (List.mem_of_getElem? (l := tables_1_1) (i := 233) rfl))
theorem tm_X3_94 : Cond.methodLink RX3 94 yX3_endpointsFit ∈ lw_tbl := List.mem_append_right _ (show _ ∈ tables_1_1 ++ (tables_1_2 ++ (tables_1_3 ++ tables_1_4)) from List.mem_append_left _ (List.mem_of_getElem? (l := tables_1_1) (i := 234) rfl))
theorem ti_yX3_endpointsFit : Cond.instanceMethod yX3_endpointsFit ∈ lw_tbl := List.mem_append_right _ (show _ ∈ tables_1_1 ++ (tables_1_2 ++ (tables_1_3 ++ tables_1_4)) from List.mem_append_left _ (List.mem_of_getElem? (l := tables_1_1) (i := 236) rfl))
theorem tc_yX3_endpointsFit : Cond.code yX3_endpointsFit cX3_endpointsFit 8 (some .boolean) ∈ lw_tbl := List.mem_append_right _ (show _ ∈ tables_1_1 ++ (tables_1_2 ++ (tables_1_3 ++ tables_1_4)) from List.mem_append_left _ (List.mem_of_getElem? (l := tables_1_1) (i := 237) rfl))
theorem tk_X3_98 : Cond.constant RX3 98 (-1000003) ∈ lw_tbl := List.mem_append_right _ (show _ ∈ tables_1_1 ++ (tables_1_2 ++ (tables_1_3 ++ tables_1_4)) from List.mem_append_left _ (List.mem_of_getElem? (l := tables_1_1) (i := 238) rfl))
theorem tm_L_32 : Cond.methodLink RL 32 yX3_drop ∈ lw_tbl := List.mem_append_right _ (show _ ∈ tables_1_1 ++ (tables_1_2 ++ (tables_1_3 ++ tables_1_4)) from List.mem_append_left _ (List.mem_of_getElem? (l := tables_1_1) (i := 239) rfl))
theorem ti_yX3_drop : Cond.instanceMethod yX3_drop ∈ lw_tbl := List.mem_append_right _ (show _ ∈ tables_1_1 ++ (tables_1_2 ++ (tables_1_3 ++ tables_1_4)) from List.mem_append_right _ (List.mem_append_left _ (List.mem_of_getElem? (l := tables_1_2) (i := 0) rfl)))
theorem te_yX3_drop : Cond.selects RX3 yX3_drop yX3_drop ∈ lw_tbl := List.mem_append_right _ (show _ ∈ tables_1_1 ++ (tables_1_2 ++ (tables_1_3 ++ tables_1_4)) from List.mem_append_right _ (List.mem_append_left _ (List.mem_of_getElem? (l := tables_1_2) (i := 1) rfl)))
theorem tc_yX3_drop : Cond.code yX3_drop cX3_drop 7 (some .int) ∈ lw_tbl := List.mem_append_right _ (show _ ∈ tables_1_1 ++ (tables_1_2 ++ (tables_1_3 ++ tables_1_4)) from List.mem_append_right _ (List.mem_append_left _ (List.mem_of_getElem? (l := tables_1_2) (i := 2) rfl)))
theorem tm_L_36 : Cond.methodLink RL 36 yX3_spawn ∈ lw_tbl := List.mem_append_right _ (show _ ∈ tables_1_1 ++ (tables_1_2 ++ (tables_1_3 ++ tables_1_4)) from List.mem_append_right _ (List.mem_append_left _ (List.mem_of_getElem? (l := tables_1_2) (i := 3) rfl)))
theorem ti_yX3_spawn : Cond.instanceMethod yX3_spawn ∈ lw_tbl := List.mem_append_right _ (show _ ∈ tables_1_1 ++ (tables_1_2 ++ (tables_1_3 ++ tables_1_4)) from List.mem_append_right _ (List.mem_append_left _ (List.mem_of_getElem? (l := tables_1_2) (i := 4) rfl)))
theorem te_yX3_spawn : Cond.selects RX3 yX3_spawn yX3_spawn ∈ lw_tbl := List.mem_append_right _ (show _ ∈ tables_1_1 ++ (tables_1_2 ++ (tables_1_3 ++ tables_1_4)) from List.mem_append_right _ (List.mem_append_left _ (List.mem_of_getElem? (l := tables_1_2) (i := 5) rfl)))
theorem tc_yX3_spawn : Cond.code yX3_spawn cX3_spawn 9 (some .int) ∈ lw_tbl := List.mem_append_right _ (show _ ∈ tables_1_1 ++ (tables_1_2 ++ (tables_1_3 ++ tables_1_4)) from List.mem_append_right _ (List.mem_append_left _ (List.mem_of_getElem? (l := tables_1_2) (i := 6) rfl)))
theorem tm_X3_99 : Cond.methodLink RX3 99 yX3_owns ∈ lw_tbl := List.mem_append_right _ (show _ ∈ tables_1_1 ++ (tables_1_2 ++ (tables_1_3 ++ tables_1_4)) from List.mem_append_right _ (List.mem_append_left _ (List.mem_of_getElem? (l := tables_1_2) (i := 7) rfl)))
theorem ts_yX3_owns : Cond.static yX3_owns ∈ lw_tbl := List.mem_append_right _ (show _ ∈ tables_1_1 ++ (tables_1_2 ++ (tables_1_3 ++ tables_1_4)) from List.mem_append_right _ (List.mem_append_left _ (List.mem_of_getElem? (l := tables_1_2) (i := 8) rfl)))
theorem tc_yX3_owns : Cond.code yX3_owns cX3_owns 3 (some .boolean) ∈ lw_tbl := List.mem_append_right _ (show _ ∈ tables_1_1 ++ (tables_1_2 ++ (tables_1_3 ++ tables_1_4)) from List.mem_append_right _ (List.mem_append_left _ (List.mem_of_getElem? (l := tables_1_2) (i := 9) rfl)))
theorem tm_L_41 : Cond.methodLink RL 41 yX3_exit ∈ lw_tbl := List.mem_append_right _ (show _ ∈ tables_1_1 ++ (tables_1_2 ++ (tables_1_3 ++ tables_1_4)) from List.mem_append_right _ (List.mem_append_left _ (List.mem_of_getElem? (l := tables_1_2) (i := 10) rfl)))
theorem ti_yX3_exit : Cond.instanceMethod yX3_exit ∈ lw_tbl := List.mem_append_right _ (show _ ∈ tables_1_1 ++ (tables_1_2 ++ (tables_1_3 ++ tables_1_4)) from List.mem_append_right _ (List.mem_append_left _ (List.mem_of_getElem? (l := tables_1_2) (i := 11) rfl)))
theorem te_yX3_exit : Cond.selects RX3 yX3_exit yX3_exit ∈ lw_tbl := List.mem_append_right _ (show _ ∈ tables_1_1 ++ (tables_1_2 ++ (tables_1_3 ++ tables_1_4)) from List.mem_append_right _ (List.mem_append_left _ (List.mem_of_getElem? (l := tables_1_2) (i := 12) rfl)))
theorem tc_yX3_exit : Cond.code yX3_exit cX3_exit 4 (some .int) ∈ lw_tbl := List.mem_append_right _ (show _ ∈ tables_1_1 ++ (tables_1_2 ++ (tables_1_3 ++ tables_1_4)) from List.mem_append_right _ (List.mem_append_left _ (List.mem_of_getElem? (l := tables_1_2) (i := 13) rfl)))
theorem tm_X3_106 : Cond.methodLink RX3 106 yX3_closeEndpointsOf ∈ lw_tbl := List.mem_append_right _ (show _ ∈ tables_1_1 ++ (tables_1_2 ++ (tables_1_3 ++ tables_1_4)) from List.mem_append_right _ (List.mem_append_left _ (List.mem_of_getElem? (l := tables_1_2) (i := 14) rfl)))
theorem ti_yX3_closeEndpointsOf : Cond.instanceMethod yX3_closeEndpointsOf ∈ lw_tbl := List.mem_append_right _ (show _ ∈ tables_1_1 ++ (tables_1_2 ++ (tables_1_3 ++ tables_1_4)) from List.mem_append_right _ (List.mem_append_left _ (List.mem_of_getElem? (l := tables_1_2) (i := 16) rfl)))
theorem tc_yX3_closeEndpointsOf : Cond.code yX3_closeEndpointsOf cX3_closeEndpointsOf 3 none ∈ lw_tbl := List.mem_append_right _ (show _ ∈ tables_1_1 ++ (tables_1_2 ++ (tables_1_3 ++ tables_1_4)) from List.mem_append_right _ (List.mem_append_left _ (List.mem_of_getElem? (l := tables_1_2) (i := 17) rfl)))
theorem tm_L_45 : Cond.methodLink RL 45 yX3_endpoint ∈ lw_tbl := List.mem_append_right _ (show _ ∈ tables_1_1 ++ (tables_1_2 ++ (tables_1_3 ++ tables_1_4)) from List.mem_append_right _ (List.mem_append_left _ (List.mem_of_getElem? (l := tables_1_2) (i := 18) rfl)))
theorem ti_yX3_endpoint : Cond.instanceMethod yX3_endpoint ∈ lw_tbl := List.mem_append_right _ (show _ ∈ tables_1_1 ++ (tables_1_2 ++ (tables_1_3 ++ tables_1_4)) from List.mem_append_right _ (List.mem_append_left _ (List.mem_of_getElem? (l := tables_1_2) (i := 19) rfl)))
theorem te_yX3_endpoint : Cond.selects RX3 yX3_endpoint yX3_endpoint ∈ lw_tbl := List.mem_append_right _ (show _ ∈ tables_1_1 ++ (tables_1_2 ++ (tables_1_3 ++ tables_1_4)) from List.mem_append_right _ (List.mem_append_left _ (List.mem_of_getElem? (l := tables_1_2) (i := 20) rfl)))
theorem tc_yX3_endpoint : Cond.code yX3_endpoint cX3_endpoint 7 (some .int) ∈ lw_tbl := List.mem_append_right _ (show _ ∈ tables_1_1 ++ (tables_1_2 ++ (tables_1_3 ++ tables_1_4)) from List.mem_append_right _ (List.mem_append_left _ (List.mem_of_getElem? (l := tables_1_2) (i := 21) rfl)))
theorem tm_X3_117 : Cond.methodLinkNest RX3 117 yX0_begin RX3 ∈ lw_tbl := List.mem_append_right _ (show _ ∈ tables_1_1 ++ (tables_1_2 ++ (tables_1_3 ++ tables_1_4)) from List.mem_append_right _ (List.mem_append_left _ (List.mem_of_getElem? (l := tables_1_2) (i := 22) rfl)))
theorem ti_yX0_begin : Cond.instanceMethod yX0_begin ∈ lw_tbl := List.mem_append_right _ (show _ ∈ tables_1_1 ++ (tables_1_2 ++ (tables_1_3 ++ tables_1_4)) from List.mem_append_right _ (List.mem_append_left _ (List.mem_of_getElem? (l := tables_1_2) (i := 24) rfl)))
theorem tc_yX0_begin : Cond.code yX0_begin cX0_begin 4 none ∈ lw_tbl := List.mem_append_right _ (show _ ∈ tables_1_1 ++ (tables_1_2 ++ (tables_1_3 ++ tables_1_4)) from List.mem_append_right _ (List.mem_append_left _ (List.mem_of_getElem? (l := tables_1_2) (i := 25) rfl)))
theorem tm_L_49 : Cond.methodLink RL 49 yX3_close ∈ lw_tbl := List.mem_append_right _ (show _ ∈ tables_1_1 ++ (tables_1_2 ++ (tables_1_3 ++ tables_1_4)) from List.mem_append_right _ (List.mem_append_left _ (List.mem_of_getElem? (l := tables_1_2) (i := 26) rfl)))
theorem ti_yX3_close : Cond.instanceMethod yX3_close ∈ lw_tbl := List.mem_append_right _ (show _ ∈ tables_1_1 ++ (tables_1_2 ++ (tables_1_3 ++ tables_1_4)) from List.mem_append_right _ (List.mem_append_left _ (List.mem_of_getElem? (l := tables_1_2) (i := 27) rfl)))
theorem te_yX3_close : Cond.selects RX3 yX3_close yX3_close ∈ lw_tbl := List.mem_append_right _ (show _ ∈ tables_1_1 ++ (tables_1_2 ++ (tables_1_3 ++ tables_1_4)) from List.mem_append_right _ (List.mem_append_left _ (List.mem_of_getElem? (l := tables_1_2) (i := 28) rfl)))
theorem tc_yX3_close : Cond.code yX3_close cX3_close 4 (some .int) ∈ lw_tbl := List.mem_append_right _ (show _ ∈ tables_1_1 ++ (tables_1_2 ++ (tables_1_3 ++ tables_1_4)) from List.mem_append_right _ (List.mem_append_left _ (List.mem_of_getElem? (l := tables_1_2) (i := 29) rfl)))
theorem tm_X3_120 : Cond.methodLink RX3 120 yX3_endpointAt ∈ lw_tbl := List.mem_append_right _ (show _ ∈ tables_1_1 ++ (tables_1_2 ++ (tables_1_3 ++ tables_1_4)) from List.mem_append_right _ (List.mem_append_left _ (List.mem_of_getElem? (l := tables_1_2) (i := 30) rfl)))
theorem ti_yX3_endpointAt : Cond.instanceMethod yX3_endpointAt ∈ lw_tbl := List.mem_append_right _ (show _ ∈ tables_1_1 ++ (tables_1_2 ++ (tables_1_3 ++ tables_1_4)) from List.mem_append_right _ (List.mem_append_left _ (List.mem_of_getElem? (l := tables_1_2) (i := 32) rfl)))
theorem tc_yX3_endpointAt : Cond.code yX3_endpointAt cX3_endpointAt 2 (some (.object "LabelKernel$EndpointRow")) ∈ lw_tbl := List.mem_append_right _ (show _ ∈ tables_1_1 ++ (tables_1_2 ++ (tables_1_3 ++ tables_1_4)) from List.mem_append_right _ (List.mem_append_left _ (List.mem_of_getElem? (l := tables_1_2) (i := 33) rfl)))
theorem tm_L_53 : Cond.methodLink RL 53 yX3_port ∈ lw_tbl := List.mem_append_right _ (show _ ∈ tables_1_1 ++ (tables_1_2 ++ (tables_1_3 ++ tables_1_4)) from List.mem_append_right _ (List.mem_append_left _ (List.mem_of_getElem? (l := tables_1_2) (i := 34) rfl)))
theorem ti_yX3_port : Cond.instanceMethod yX3_port ∈ lw_tbl := List.mem_append_right _ (show _ ∈ tables_1_1 ++ (tables_1_2 ++ (tables_1_3 ++ tables_1_4)) from List.mem_append_right _ (List.mem_append_left _ (List.mem_of_getElem? (l := tables_1_2) (i := 35) rfl)))
theorem te_yX3_port : Cond.selects RX3 yX3_port yX3_port ∈ lw_tbl := List.mem_append_right _ (show _ ∈ tables_1_1 ++ (tables_1_2 ++ (tables_1_3 ++ tables_1_4)) from List.mem_append_right _ (List.mem_append_left _ (List.mem_of_getElem? (l := tables_1_2) (i := 36) rfl)))
theorem tc_yX3_port : Cond.code yX3_port cX3_port 4 (some .int) ∈ lw_tbl := List.mem_append_right _ (show _ ∈ tables_1_1 ++ (tables_1_2 ++ (tables_1_3 ++ tables_1_4)) from List.mem_append_right _ (List.mem_append_left _ (List.mem_of_getElem? (l := tables_1_2) (i := 37) rfl)))
theorem tm_L_57 : Cond.methodLink RL 57 yX3_send ∈ lw_tbl := List.mem_append_right _ (show _ ∈ tables_1_1 ++ (tables_1_2 ++ (tables_1_3 ++ tables_1_4)) from List.mem_append_right _ (List.mem_append_left _ (List.mem_of_getElem? (l := tables_1_2) (i := 38) rfl)))
theorem ti_yX3_send : Cond.instanceMethod yX3_send ∈ lw_tbl := List.mem_append_right _ (show _ ∈ tables_1_1 ++ (tables_1_2 ++ (tables_1_3 ++ tables_1_4)) from List.mem_append_right _ (List.mem_append_left _ (List.mem_of_getElem? (l := tables_1_2) (i := 39) rfl)))
theorem te_yX3_send : Cond.selects RX3 yX3_send yX3_send ∈ lw_tbl := List.mem_append_right _ (show _ ∈ tables_1_1 ++ (tables_1_2 ++ (tables_1_3 ++ tables_1_4)) from List.mem_append_right _ (List.mem_append_left _ (List.mem_of_getElem? (l := tables_1_2) (i := 40) rfl)))
theorem tc_yX3_send : Cond.code yX3_send cX3_send 10 (some .int) ∈ lw_tbl := List.mem_append_right _ (show _ ∈ tables_1_1 ++ (tables_1_2 ++ (tables_1_3 ++ tables_1_4)) from List.mem_append_right _ (List.mem_append_left _ (List.mem_of_getElem? (l := tables_1_2) (i := 41) rfl)))
theorem tm_X3_135 : Cond.methodLinkNest RX3 135 yX0_hasRoom RX3 ∈ lw_tbl := List.mem_append_right _ (show _ ∈ tables_1_1 ++ (tables_1_2 ++ (tables_1_3 ++ tables_1_4)) from List.mem_append_right _ (List.mem_append_left _ (List.mem_of_getElem? (l := tables_1_2) (i := 42) rfl)))
theorem ti_yX0_hasRoom : Cond.instanceMethod yX0_hasRoom ∈ lw_tbl := List.mem_append_right _ (show _ ∈ tables_1_1 ++ (tables_1_2 ++ (tables_1_3 ++ tables_1_4)) from List.mem_append_right _ (List.mem_append_left _ (List.mem_of_getElem? (l := tables_1_2) (i := 44) rfl)))
theorem tc_yX0_hasRoom : Cond.code yX0_hasRoom cX0_hasRoom 1 (some .boolean) ∈ lw_tbl := List.mem_append_right _ (show _ ∈ tables_1_1 ++ (tables_1_2 ++ (tables_1_3 ++ tables_1_4)) from List.mem_append_right _ (List.mem_append_left _ (List.mem_of_getElem? (l := tables_1_2) (i := 45) rfl)))
theorem tm_X3_139 : Cond.methodLink RX3 139 yX3_flows ∈ lw_tbl := List.mem_append_right _ (show _ ∈ tables_1_1 ++ (tables_1_2 ++ (tables_1_3 ++ tables_1_4)) from List.mem_append_right _ (List.mem_append_left _ (List.mem_of_getElem? (l := tables_1_2) (i := 46) rfl)))
theorem ts_yX3_flows : Cond.static yX3_flows ∈ lw_tbl := List.mem_append_right _ (show _ ∈ tables_1_1 ++ (tables_1_2 ++ (tables_1_3 ++ tables_1_4)) from List.mem_append_right _ (List.mem_append_left _ (List.mem_of_getElem? (l := tables_1_2) (i := 47) rfl)))
theorem tc_yX3_flows : Cond.code yX3_flows cX3_flows 4 (some .boolean) ∈ lw_tbl := List.mem_append_right _ (show _ ∈ tables_1_1 ++ (tables_1_2 ++ (tables_1_3 ++ tables_1_4)) from List.mem_append_right _ (List.mem_append_left _ (List.mem_of_getElem? (l := tables_1_2) (i := 48) rfl)))
theorem tm_X3_142 : Cond.methodLinkNest RX3 142 yX0_put RX3 ∈ lw_tbl := List.mem_append_right _ (show _ ∈ tables_1_1 ++ (tables_1_2 ++ (tables_1_3 ++ tables_1_4)) from List.mem_append_right _ (List.mem_append_left _ (List.mem_of_getElem? (l := tables_1_2) (i := 49) rfl)))
theorem ti_yX0_put : Cond.instanceMethod yX0_put ∈ lw_tbl := List.mem_append_right _ (show _ ∈ tables_1_1 ++ (tables_1_2 ++ (tables_1_3 ++ tables_1_4)) from List.mem_append_right _ (List.mem_append_left _ (List.mem_of_getElem? (l := tables_1_2) (i := 51) rfl)))
theorem tc_yX0_put : Cond.code yX0_put cX0_put 4 none ∈ lw_tbl := List.mem_append_right _ (show _ ∈ tables_1_1 ++ (tables_1_2 ++ (tables_1_3 ++ tables_1_4)) from List.mem_append_right _ (List.mem_append_left _ (List.mem_of_getElem? (l := tables_1_2) (i := 52) rfl)))
theorem tm_X0_38 : Cond.methodLink RX0 38 yX0_hasRoom ∈ lw_tbl := List.mem_append_right _ (show _ ∈ tables_1_1 ++ (tables_1_2 ++ (tables_1_3 ++ tables_1_4)) from List.mem_append_right _ (List.mem_append_left _ (List.mem_of_getElem? (l := tables_1_2) (i := 53) rfl)))
theorem tm_L_62 : Cond.methodLink RL 62 yX3_receive ∈ lw_tbl := List.mem_append_right _ (show _ ∈ tables_1_1 ++ (tables_1_2 ++ (tables_1_3 ++ tables_1_4)) from List.mem_append_right _ (List.mem_append_left _ (List.mem_of_getElem? (l := tables_1_2) (i := 54) rfl)))
theorem ti_yX3_receive : Cond.instanceMethod yX3_receive ∈ lw_tbl := List.mem_append_right _ (show _ ∈ tables_1_1 ++ (tables_1_2 ++ (tables_1_3 ++ tables_1_4)) from List.mem_append_right _ (List.mem_append_left _ (List.mem_of_getElem? (l := tables_1_2) (i := 55) rfl)))
theorem te_yX3_receive : Cond.selects RX3 yX3_receive yX3_receive ∈ lw_tbl := List.mem_append_right _ (show _ ∈ tables_1_1 ++ (tables_1_2 ++ (tables_1_3 ++ tables_1_4)) from List.mem_append_right _ (List.mem_append_left _ (List.mem_of_getElem? (l := tables_1_2) (i := 56) rfl)))
theorem tc_yX3_receive : Cond.code yX3_receive cX3_receive 5 (some .int) ∈ lw_tbl := List.mem_append_right _ (show _ ∈ tables_1_1 ++ (tables_1_2 ++ (tables_1_3 ++ tables_1_4)) from List.mem_append_right _ (List.mem_append_left _ (List.mem_of_getElem? (l := tables_1_2) (i := 57) rfl)))
theorem tm_X3_158 : Cond.methodLinkNest RX3 158 yX2_take RX3 ∈ lw_tbl := List.mem_append_right _ (show _ ∈ tables_1_1 ++ (tables_1_2 ++ (tables_1_3 ++ tables_1_4)) from List.mem_append_right _ (List.mem_append_left _ (List.mem_of_getElem? (l := tables_1_2) (i := 58) rfl)))
theorem ti_yX2_take : Cond.instanceMethod yX2_take ∈ lw_tbl := List.mem_append_right _ (show _ ∈ tables_1_1 ++ (tables_1_2 ++ (tables_1_3 ++ tables_1_4)) from List.mem_append_right _ (List.mem_append_left _ (List.mem_of_getElem? (l := tables_1_2) (i := 60) rfl)))
theorem tc_yX2_take : Cond.code yX2_take cX2_take 4 none ∈ lw_tbl := List.mem_append_right _ (show _ ∈ tables_1_1 ++ (tables_1_2 ++ (tables_1_3 ++ tables_1_4)) from List.mem_append_right _ (List.mem_append_left _ (List.mem_of_getElem? (l := tables_1_2) (i := 61) rfl)))
theorem tm_X3_161 : Cond.methodLinkNest RX3 161 yX0_moveUp RX3 ∈ lw_tbl := List.mem_append_right _ (show _ ∈ tables_1_1 ++ (tables_1_2 ++ (tables_1_3 ++ tables_1_4)) from List.mem_append_right _ (List.mem_append_left _ (List.mem_of_getElem? (l := tables_1_2) (i := 62) rfl)))
theorem ti_yX0_moveUp : Cond.instanceMethod yX0_moveUp ∈ lw_tbl := List.mem_append_right _ (show _ ∈ tables_1_1 ++ (tables_1_2 ++ (tables_1_3 ++ tables_1_4)) from List.mem_append_right _ (List.mem_append_left _ (List.mem_of_getElem? (l := tables_1_2) (i := 64) rfl)))
theorem tc_yX0_moveUp : Cond.code yX0_moveUp cX0_moveUp 2 none ∈ lw_tbl := List.mem_append_right _ (show _ ∈ tables_1_1 ++ (tables_1_2 ++ (tables_1_3 ++ tables_1_4)) from List.mem_append_right _ (List.mem_append_left _ (List.mem_of_getElem? (l := tables_1_2) (i := 65) rfl)))
theorem tm_L_66 : Cond.methodLink RL 66 yX3_message ∈ lw_tbl := List.mem_append_right _ (show _ ∈ tables_1_1 ++ (tables_1_2 ++ (tables_1_3 ++ tables_1_4)) from List.mem_append_right _ (List.mem_append_left _ (List.mem_of_getElem? (l := tables_1_2) (i := 66) rfl)))
theorem ti_yX3_message : Cond.instanceMethod yX3_message ∈ lw_tbl := List.mem_append_right _ (show _ ∈ tables_1_1 ++ (tables_1_2 ++ (tables_1_3 ++ tables_1_4)) from List.mem_append_right _ (List.mem_append_left _ (List.mem_of_getElem? (l := tables_1_2) (i := 67) rfl)))
theorem te_yX3_message : Cond.selects RX3 yX3_message yX3_message ∈ lw_tbl := List.mem_append_right _ (show _ ∈ tables_1_1 ++ (tables_1_2 ++ (tables_1_3 ++ tables_1_4)) from List.mem_append_right _ (List.mem_append_left _ (List.mem_of_getElem? (l := tables_1_2) (i := 68) rfl)))
theorem tc_yX3_message : Cond.code yX3_message cX3_message 4 (some .int) ∈ lw_tbl := List.mem_append_right _ (show _ ∈ tables_1_1 ++ (tables_1_2 ++ (tables_1_3 ++ tables_1_4)) from List.mem_append_right _ (List.mem_append_left _ (List.mem_of_getElem? (l := tables_1_2) (i := 69) rfl)))
theorem tm_L_70 : Cond.methodLink RL 70 yX3_container ∈ lw_tbl := List.mem_append_right _ (show _ ∈ tables_1_1 ++ (tables_1_2 ++ (tables_1_3 ++ tables_1_4)) from List.mem_append_right _ (List.mem_append_left _ (List.mem_of_getElem? (l := tables_1_2) (i := 70) rfl)))
theorem ti_yX3_container : Cond.instanceMethod yX3_container ∈ lw_tbl := List.mem_append_right _ (show _ ∈ tables_1_1 ++ (tables_1_2 ++ (tables_1_3 ++ tables_1_4)) from List.mem_append_right _ (List.mem_append_left _ (List.mem_of_getElem? (l := tables_1_2) (i := 71) rfl)))
theorem te_yX3_container : Cond.selects RX3 yX3_container yX3_container ∈ lw_tbl := List.mem_append_right _ (show _ ∈ tables_1_1 ++ (tables_1_2 ++ (tables_1_3 ++ tables_1_4)) from List.mem_append_right _ (List.mem_append_left _ (List.mem_of_getElem? (l := tables_1_2) (i := 72) rfl)))
theorem tc_yX3_container : Cond.code yX3_container cX3_container 10 (some .int) ∈ lw_tbl := List.mem_append_right _ (show _ ∈ tables_1_1 ++ (tables_1_2 ++ (tables_1_3 ++ tables_1_4)) from List.mem_append_right _ (List.mem_append_left _ (List.mem_of_getElem? (l := tables_1_2) (i := 73) rfl)))
theorem tm_X3_173 : Cond.methodLink RX3 173 yX3_containerAt ∈ lw_tbl := List.mem_append_right _ (show _ ∈ tables_1_1 ++ (tables_1_2 ++ (tables_1_3 ++ tables_1_4)) from List.mem_append_right _ (List.mem_append_left _ (List.mem_of_getElem? (l := tables_1_2) (i := 74) rfl)))
theorem ti_yX3_containerAt : Cond.instanceMethod yX3_containerAt ∈ lw_tbl := List.mem_append_right _ (show _ ∈ tables_1_1 ++ (tables_1_2 ++ (tables_1_3 ++ tables_1_4)) from List.mem_append_right _ (List.mem_append_left _ (List.mem_of_getElem? (l := tables_1_2) (i := 76) rfl)))
theorem tc_yX3_containerAt : Cond.code yX3_containerAt cX3_containerAt 3 (some (.object "LabelKernel$ObjectRow")) ∈ lw_tbl := List.mem_append_right _ (show _ ∈ tables_1_1 ++ (tables_1_2 ++ (tables_1_3 ++ tables_1_4)) from List.mem_append_right _ (List.mem_append_left _ (List.mem_of_getElem? (l := tables_1_2) (i := 77) rfl)))
theorem tm_X3_191 : Cond.methodLink RX3 191 yX3_objectAt ∈ lw_tbl := List.mem_append_right _ (show _ ∈ tables_1_1 ++ (tables_1_2 ++ (tables_1_3 ++ tables_1_4)) from List.mem_append_right _ (List.mem_append_left _ (List.mem_of_getElem? (l := tables_1_2) (i := 78) rfl)))
theorem ti_yX3_objectAt : Cond.instanceMethod yX3_objectAt ∈ lw_tbl := List.mem_append_right _ (show _ ∈ tables_1_1 ++ (tables_1_2 ++ (tables_1_3 ++ tables_1_4)) from List.mem_append_right _ (List.mem_append_left _ (List.mem_of_getElem? (l := tables_1_2) (i := 80) rfl)))
theorem tc_yX3_objectAt : Cond.code yX3_objectAt cX3_objectAt 2 (some (.object "LabelKernel$ObjectRow")) ∈ lw_tbl := List.mem_append_right _ (show _ ∈ tables_1_1 ++ (tables_1_2 ++ (tables_1_3 ++ tables_1_4)) from List.mem_append_right _ (List.mem_append_left _ (List.mem_of_getElem? (l := tables_1_2) (i := 81) rfl)))
theorem tm_X3_177 : Cond.methodLink RX3 177 yX3_mayMake ∈ lw_tbl := List.mem_append_right _ (show _ ∈ tables_1_1 ++ (tables_1_2 ++ (tables_1_3 ++ tables_1_4)) from List.mem_append_right _ (List.mem_append_left _ (List.mem_of_getElem? (l := tables_1_2) (i := 82) rfl)))
theorem ts_yX3_mayMake : Cond.static yX3_mayMake ∈ lw_tbl := List.mem_append_right _ (show _ ∈ tables_1_1 ++ (tables_1_2 ++ (tables_1_3 ++ tables_1_4)) from List.mem_append_right _ (List.mem_append_left _ (List.mem_of_getElem? (l := tables_1_2) (i := 83) rfl)))
theorem tc_yX3_mayMake : Cond.code yX3_mayMake cX3_mayMake 4 (some .boolean) ∈ lw_tbl := List.mem_append_right _ (show _ ∈ tables_1_1 ++ (tables_1_2 ++ (tables_1_3 ++ tables_1_4)) from List.mem_append_right _ (List.mem_append_left _ (List.mem_of_getElem? (l := tables_1_2) (i := 84) rfl)))
theorem tm_X3_197 : Cond.methodLink RX3 197 yX3_canRead ∈ lw_tbl := List.mem_append_right _ (show _ ∈ tables_1_1 ++ (tables_1_2 ++ (tables_1_3 ++ tables_1_4)) from List.mem_append_right _ (List.mem_append_left _ (List.mem_of_getElem? (l := tables_1_2) (i := 85) rfl)))
theorem ts_yX3_canRead : Cond.static yX3_canRead ∈ lw_tbl := List.mem_append_right _ (show _ ∈ tables_1_1 ++ (tables_1_2 ++ (tables_1_3 ++ tables_1_4)) from List.mem_append_right _ (List.mem_append_left _ (List.mem_of_getElem? (l := tables_1_2) (i := 86) rfl)))
theorem tc_yX3_canRead : Cond.code yX3_canRead cX3_canRead 2 (some .boolean) ∈ lw_tbl := List.mem_append_right _ (show _ ∈ tables_1_1 ++ (tables_1_2 ++ (tables_1_3 ++ tables_1_4)) from List.mem_append_right _ (List.mem_append_left _ (List.mem_of_getElem? (l := tables_1_2) (i := 87) rfl)))
theorem tm_X3_201 : Cond.methodLink RX3 201 yX3_canWrite ∈ lw_tbl := List.mem_append_right _ (show _ ∈ tables_1_1 ++ (tables_1_2 ++ (tables_1_3 ++ tables_1_4)) from List.mem_append_right _ (List.mem_append_left _ (List.mem_of_getElem? (l := tables_1_2) (i := 88) rfl)))
theorem ts_yX3_canWrite : Cond.static yX3_canWrite ∈ lw_tbl := List.mem_append_right _ (show _ ∈ tables_1_1 ++ (tables_1_2 ++ (tables_1_3 ++ tables_1_4)) from List.mem_append_right _ (List.mem_append_left _ (List.mem_of_getElem? (l := tables_1_2) (i := 89) rfl)))
theorem tc_yX3_canWrite : Cond.code yX3_canWrite cX3_canWrite 2 (some .boolean) ∈ lw_tbl := List.mem_append_right _ (show _ ∈ tables_1_1 ++ (tables_1_2 ++ (tables_1_3 ++ tables_1_4)) from List.mem_append_right _ (List.mem_append_left _ (List.mem_of_getElem? (l := tables_1_2) (i := 90) rfl)))
theorem tm_X3_181 : Cond.methodLink RX3 181 yX3_blocksLeft ∈ lw_tbl := List.mem_append_right _ (show _ ∈ tables_1_1 ++ (tables_1_2 ++ (tables_1_3 ++ tables_1_4)) from List.mem_append_right _ (List.mem_append_left _ (List.mem_of_getElem? (l := tables_1_2) (i := 91) rfl)))
theorem ti_yX3_blocksLeft : Cond.instanceMethod yX3_blocksLeft ∈ lw_tbl := List.mem_append_right _ (show _ ∈ tables_1_1 ++ (tables_1_2 ++ (tables_1_3 ++ tables_1_4)) from List.mem_append_right _ (List.mem_append_left _ (List.mem_of_getElem? (l := tables_1_2) (i := 93) rfl)))
theorem tc_yX3_blocksLeft : Cond.code yX3_blocksLeft cX3_blocksLeft 5 (some .int) ∈ lw_tbl := List.mem_append_right _ (show _ ∈ tables_1_1 ++ (tables_1_2 ++ (tables_1_3 ++ tables_1_4)) from List.mem_append_right _ (List.mem_append_left _ (List.mem_of_getElem? (l := tables_1_2) (i := 94) rfl)))
theorem tm_X3_234 : Cond.methodLink RX3 234 yX3_standsIn ∈ lw_tbl := List.mem_append_right _ (show _ ∈ tables_1_1 ++ (tables_1_2 ++ (tables_1_3 ++ tables_1_4)) from List.mem_append_right _ (List.mem_append_left _ (List.mem_of_getElem? (l := tables_1_2) (i := 95) rfl)))
theorem ti_yX3_standsIn : Cond.instanceMethod yX3_standsIn ∈ lw_tbl := List.mem_append_right _ (show _ ∈ tables_1_1 ++ (tables_1_2 ++ (tables_1_3 ++ tables_1_4)) from List.mem_append_right _ (List.mem_append_left _ (List.mem_of_getElem? (l := tables_1_2) (i := 97) rfl)))
theorem tc_yX3_standsIn : Cond.code yX3_standsIn cX3_standsIn 4 (some .boolean) ∈ lw_tbl := List.mem_append_right _ (show _ ∈ tables_1_1 ++ (tables_1_2 ++ (tables_1_3 ++ tables_1_4)) from List.mem_append_right _ (List.mem_append_left _ (List.mem_of_getElem? (l := tables_1_2) (i := 98) rfl)))
theorem tm_X3_259 : Cond.methodLinkNest RX3 259 yX1_blocksTaken RX3 ∈ lw_tbl := List.mem_append_right _ (show _ ∈ tables_1_1 ++ (tables_1_2 ++ (tables_1_3 ++ tables_1_4)) from List.mem_append_right _ (List.mem_append_left _ (List.mem_of_getElem? (l := tables_1_2) (i := 99) rfl)))
theorem ti_yX1_blocksTaken : Cond.instanceMethod yX1_blocksTaken ∈ lw_tbl := List.mem_append_right _ (show _ ∈ tables_1_1 ++ (tables_1_2 ++ (tables_1_3 ++ tables_1_4)) from List.mem_append_right _ (List.mem_append_left _ (List.mem_of_getElem? (l := tables_1_2) (i := 101) rfl)))
theorem tc_yX1_blocksTaken : Cond.code yX1_blocksTaken cX1_blocksTaken 1 (some .int) ∈ lw_tbl := List.mem_append_right _ (show _ ∈ tables_1_1 ++ (tables_1_2 ++ (tables_1_3 ++ tables_1_4)) from List.mem_append_right _ (List.mem_append_left _ (List.mem_of_getElem? (l := tables_1_2) (i := 102) rfl)))
theorem tm_X1_41 : Cond.methodLinkNest RX1 41 yX3_blocksFor RX3 ∈ lw_tbl := List.mem_append_right _ (show _ ∈ tables_1_1 ++ (tables_1_2 ++ (tables_1_3 ++ tables_1_4)) from List.mem_append_right _ (List.mem_append_left _ (List.mem_of_getElem? (l := tables_1_2) (i := 103) rfl)))
theorem ts_yX3_blocksFor : Cond.static yX3_blocksFor ∈ lw_tbl := List.mem_append_right _ (show _ ∈ tables_1_1 ++ (tables_1_2 ++ (tables_1_3 ++ tables_1_4)) from List.mem_append_right _ (List.mem_append_left _ (List.mem_of_getElem? (l := tables_1_2) (i := 104) rfl)))
theorem tc_yX3_blocksFor : Cond.code yX3_blocksFor cX3_blocksFor 1 (some .int) ∈ lw_tbl := List.mem_append_right _ (show _ ∈ tables_1_1 ++ (tables_1_2 ++ (tables_1_3 ++ tables_1_4)) from List.mem_append_right _ (List.mem_append_left _ (List.mem_of_getElem? (l := tables_1_2) (i := 105) rfl)))
theorem tm_X3_184 : Cond.methodLink RX3 184 yX3_placesLeft ∈ lw_tbl := List.mem_append_right _ (show _ ∈ tables_1_1 ++ (tables_1_2 ++ (tables_1_3 ++ tables_1_4)) from List.mem_append_right _ (List.mem_append_left _ (List.mem_of_getElem? (l := tables_1_2) (i := 106) rfl)))
theorem ti_yX3_placesLeft : Cond.instanceMethod yX3_placesLeft ∈ lw_tbl := List.mem_append_right _ (show _ ∈ tables_1_1 ++ (tables_1_2 ++ (tables_1_3 ++ tables_1_4)) from List.mem_append_right _ (List.mem_append_left _ (List.mem_of_getElem? (l := tables_1_2) (i := 108) rfl)))
theorem tc_yX3_placesLeft : Cond.code yX3_placesLeft cX3_placesLeft 5 (some .int) ∈ lw_tbl := List.mem_append_right _ (show _ ∈ tables_1_1 ++ (tables_1_2 ++ (tables_1_3 ++ tables_1_4)) from List.mem_append_right _ (List.mem_append_left _ (List.mem_of_getElem? (l := tables_1_2) (i := 109) rfl)))
theorem tm_X3_187 : Cond.methodLink RX3 187 yX3_make ∈ lw_tbl := List.mem_append_right _ (show _ ∈ tables_1_1 ++ (tables_1_2 ++ (tables_1_3 ++ tables_1_4)) from List.mem_append_right _ (List.mem_append_left _ (List.mem_of_getElem? (l := tables_1_2) (i := 110) rfl)))
theorem ti_yX3_make : Cond.instanceMethod yX3_make ∈ lw_tbl := List.mem_append_right _ (show _ ∈ tables_1_1 ++ (tables_1_2 ++ (tables_1_3 ++ tables_1_4)) from List.mem_append_right _ (List.mem_append_left _ (List.mem_of_getElem? (l := tables_1_2) (i := 112) rfl)))
theorem tc_yX3_make : Cond.code yX3_make cX3_make 8 (some .int) ∈ lw_tbl := List.mem_append_right _ (show _ ∈ tables_1_1 ++ (tables_1_2 ++ (tables_1_3 ++ tables_1_4)) from List.mem_append_right _ (List.mem_append_left _ (List.mem_of_getElem? (l := tables_1_2) (i := 113) rfl)))
theorem tm_X3_207 : Cond.methodLink RX3 207 yX3_enter ∈ lw_tbl := List.mem_append_right _ (show _ ∈ tables_1_1 ++ (tables_1_2 ++ (tables_1_3 ++ tables_1_4)) from List.mem_append_right _ (List.mem_append_left _ (List.mem_of_getElem? (l := tables_1_2) (i := 114) rfl)))
theorem ti_yX3_enter : Cond.instanceMethod yX3_enter ∈ lw_tbl := List.mem_append_right _ (show _ ∈ tables_1_1 ++ (tables_1_2 ++ (tables_1_3 ++ tables_1_4)) from List.mem_append_right _ (List.mem_append_left _ (List.mem_of_getElem? (l := tables_1_2) (i := 116) rfl)))
theorem tc_yX3_enter : Cond.code yX3_enter cX3_enter 2 (some .boolean) ∈ lw_tbl := List.mem_append_right _ (show _ ∈ tables_1_1 ++ (tables_1_2 ++ (tables_1_3 ++ tables_1_4)) from List.mem_append_right _ (List.mem_append_left _ (List.mem_of_getElem? (l := tables_1_2) (i := 117) rfl)))
theorem tm_X3_213 : Cond.methodLink RX3 213 yX3_outcome ∈ lw_tbl := List.mem_append_right _ (show _ ∈ tables_1_1 ++ (tables_1_2 ++ (tables_1_3 ++ tables_1_4)) from List.mem_append_right _ (List.mem_append_left _ (List.mem_of_getElem? (l := tables_1_2) (i := 118) rfl)))
theorem ti_yX3_outcome : Cond.instanceMethod yX3_outcome ∈ lw_tbl := List.mem_append_right _ (show _ ∈ tables_1_1 ++ (tables_1_2 ++ (tables_1_3 ++ tables_1_4)) from List.mem_append_right _ (List.mem_append_left _ (List.mem_of_getElem? (l := tables_1_2) (i := 120) rfl)))
theorem tc_yX3_outcome : Cond.code yX3_outcome cX3_outcome 2 (some .int) ∈ lw_tbl := List.mem_append_right _ (show _ ∈ tables_1_1 ++ (tables_1_2 ++ (tables_1_3 ++ tables_1_4)) from List.mem_append_right _ (List.mem_append_left _ (List.mem_of_getElem? (l := tables_1_2) (i := 121) rfl)))
theorem tm_X3_278 : Cond.methodLink RX3 278 yX3_startAnew ∈ lw_tbl := List.mem_append_right _ (show _ ∈ tables_1_1 ++ (tables_1_2 ++ (tables_1_3 ++ tables_1_4)) from List.mem_append_right _ (List.mem_append_left _ (List.mem_of_getElem? (l := tables_1_2) (i := 122) rfl)))
theorem ti_yX3_startAnew : Cond.instanceMethod yX3_startAnew ∈ lw_tbl := List.mem_append_right _ (show _ ∈ tables_1_1 ++ (tables_1_2 ++ (tables_1_3 ++ tables_1_4)) from List.mem_append_right _ (List.mem_append_left _ (List.mem_of_getElem? (l := tables_1_2) (i := 124) rfl)))
theorem tc_yX3_startAnew : Cond.code yX3_startAnew cX3_startAnew 2 none ∈ lw_tbl := List.mem_append_right _ (show _ ∈ tables_1_1 ++ (tables_1_2 ++ (tables_1_3 ++ tables_1_4)) from List.mem_append_right _ (List.mem_append_left _ (List.mem_of_getElem? (l := tables_1_2) (i := 125) rfl)))
theorem tk_X3_281 : Cond.constant RX3 281 (-1000005) ∈ lw_tbl := List.mem_append_right _ (show _ ∈ tables_1_1 ++ (tables_1_2 ++ (tables_1_3 ++ tables_1_4)) from List.mem_append_right _ (List.mem_append_left _ (List.mem_of_getElem? (l := tables_1_2) (i := 126) rfl)))
theorem tm_L_74 : Cond.methodLink RL 74 yX3_file ∈ lw_tbl := List.mem_append_right _ (show _ ∈ tables_1_1 ++ (tables_1_2 ++ (tables_1_3 ++ tables_1_4)) from List.mem_append_right _ (List.mem_append_left _ (List.mem_of_getElem? (l := tables_1_2) (i := 127) rfl)))
theorem ti_yX3_file : Cond.instanceMethod yX3_file ∈ lw_tbl := List.mem_append_right _ (show _ ∈ tables_1_1 ++ (tables_1_2 ++ (tables_1_3 ++ tables_1_4)) from List.mem_append_right _ (List.mem_append_left _ (List.mem_of_getElem? (l := tables_1_2) (i := 128) rfl)))
theorem te_yX3_file : Cond.selects RX3 yX3_file yX3_file ∈ lw_tbl := List.mem_append_right _ (show _ ∈ tables_1_1 ++ (tables_1_2 ++ (tables_1_3 ++ tables_1_4)) from List.mem_append_right _ (List.mem_append_left _ (List.mem_of_getElem? (l := tables_1_2) (i := 129) rfl)))
theorem tc_yX3_file : Cond.code yX3_file cX3_file 7 (some .int) ∈ lw_tbl := List.mem_append_right _ (show _ ∈ tables_1_1 ++ (tables_1_2 ++ (tables_1_3 ++ tables_1_4)) from List.mem_append_right _ (List.mem_append_left _ (List.mem_of_getElem? (l := tables_1_2) (i := 130) rfl)))
theorem tm_L_79 : Cond.methodLink RL 79 yX3_remove ∈ lw_tbl := List.mem_append_right _ (show _ ∈ tables_1_1 ++ (tables_1_2 ++ (tables_1_3 ++ tables_1_4)) from List.mem_append_right _ (List.mem_append_left _ (List.mem_of_getElem? (l := tables_1_2) (i := 131) rfl)))
theorem ti_yX3_remove : Cond.instanceMethod yX3_remove ∈ lw_tbl := List.mem_append_right _ (show _ ∈ tables_1_1 ++ (tables_1_2 ++ (tables_1_3 ++ tables_1_4)) from List.mem_append_right _ (List.mem_append_left _ (List.mem_of_getElem? (l := tables_1_2) (i := 132) rfl)))
theorem te_yX3_remove : Cond.selects RX3 yX3_remove yX3_remove ∈ lw_tbl := List.mem_append_right _ (show _ ∈ tables_1_1 ++ (tables_1_2 ++ (tables_1_3 ++ tables_1_4)) from List.mem_append_right _ (List.mem_append_left _ (List.mem_of_getElem? (l := tables_1_2) (i := 133) rfl)))
theorem tc_yX3_remove : Cond.code yX3_remove cX3_remove 6 (some .int) ∈ lw_tbl := List.mem_append_right _ (show _ ∈ tables_1_1 ++ (tables_1_2 ++ (tables_1_3 ++ tables_1_4)) from List.mem_append_right _ (List.mem_append_left _ (List.mem_of_getElem? (l := tables_1_2) (i := 134) rfl)))
theorem tm_X3_204 : Cond.methodLink RX3 204 yX3_sizeOfTree ∈ lw_tbl := List.mem_append_right _ (show _ ∈ tables_1_1 ++ (tables_1_2 ++ (tables_1_3 ++ tables_1_4)) from List.mem_append_right _ (List.mem_append_left _ (List.mem_of_getElem? (l := tables_1_2) (i := 135) rfl)))
theorem ti_yX3_sizeOfTree : Cond.instanceMethod yX3_sizeOfTree ∈ lw_tbl := List.mem_append_right _ (show _ ∈ tables_1_1 ++ (tables_1_2 ++ (tables_1_3 ++ tables_1_4)) from List.mem_append_right _ (List.mem_append_left _ (List.mem_of_getElem? (l := tables_1_2) (i := 137) rfl)))
theorem tc_yX3_sizeOfTree : Cond.code yX3_sizeOfTree cX3_sizeOfTree 4 (some .int) ∈ lw_tbl := List.mem_append_right _ (show _ ∈ tables_1_1 ++ (tables_1_2 ++ (tables_1_3 ++ tables_1_4)) from List.mem_append_right _ (List.mem_append_left _ (List.mem_of_getElem? (l := tables_1_2) (i := 138) rfl)))
theorem tm_X3_275 : Cond.methodLink RX3 275 yX3_isPartOf ∈ lw_tbl := List.mem_append_right _ (show _ ∈ tables_1_1 ++ (tables_1_2 ++ (tables_1_3 ++ tables_1_4)) from List.mem_append_right _ (List.mem_append_left _ (List.mem_of_getElem? (l := tables_1_2) (i := 139) rfl)))
theorem ti_yX3_isPartOf : Cond.instanceMethod yX3_isPartOf ∈ lw_tbl := List.mem_append_right _ (show _ ∈ tables_1_1 ++ (tables_1_2 ++ (tables_1_3 ++ tables_1_4)) from List.mem_append_right _ (List.mem_append_left _ (List.mem_of_getElem? (l := tables_1_2) (i := 141) rfl)))
theorem tc_yX3_isPartOf : Cond.code yX3_isPartOf cX3_isPartOf 6 (some .boolean) ∈ lw_tbl := List.mem_append_right _ (show _ ∈ tables_1_1 ++ (tables_1_2 ++ (tables_1_3 ++ tables_1_4)) from List.mem_append_right _ (List.mem_append_left _ (List.mem_of_getElem? (l := tables_1_2) (i := 142) rfl)))
theorem tm_X3_210 : Cond.methodLink RX3 210 yX3_removeTree ∈ lw_tbl := List.mem_append_right _ (show _ ∈ tables_1_1 ++ (tables_1_2 ++ (tables_1_3 ++ tables_1_4)) from List.mem_append_right _ (List.mem_append_left _ (List.mem_of_getElem? (l := tables_1_2) (i := 143) rfl)))
theorem ti_yX3_removeTree : Cond.instanceMethod yX3_removeTree ∈ lw_tbl := List.mem_append_right _ (show _ ∈ tables_1_1 ++ (tables_1_2 ++ (tables_1_3 ++ tables_1_4)) from List.mem_append_right _ (List.mem_append_left _ (List.mem_of_getElem? (l := tables_1_2) (i := 145) rfl)))
theorem tc_yX3_removeTree : Cond.code yX3_removeTree cX3_removeTree 3 none ∈ lw_tbl := List.mem_append_right _ (show _ ∈ tables_1_1 ++ (tables_1_2 ++ (tables_1_3 ++ tables_1_4)) from List.mem_append_right _ (List.mem_append_left _ (List.mem_of_getElem? (l := tables_1_2) (i := 146) rfl)))
theorem tm_L_83 : Cond.methodLink RL 83 yX3_write ∈ lw_tbl := List.mem_append_right _ (show _ ∈ tables_1_1 ++ (tables_1_2 ++ (tables_1_3 ++ tables_1_4)) from List.mem_append_right _ (List.mem_append_left _ (List.mem_of_getElem? (l := tables_1_2) (i := 147) rfl)))
theorem ti_yX3_write : Cond.instanceMethod yX3_write ∈ lw_tbl := List.mem_append_right _ (show _ ∈ tables_1_1 ++ (tables_1_2 ++ (tables_1_3 ++ tables_1_4)) from List.mem_append_right _ (List.mem_append_left _ (List.mem_of_getElem? (l := tables_1_2) (i := 148) rfl)))
theorem te_yX3_write : Cond.selects RX3 yX3_write yX3_write ∈ lw_tbl := List.mem_append_right _ (show _ ∈ tables_1_1 ++ (tables_1_2 ++ (tables_1_3 ++ tables_1_4)) from List.mem_append_right _ (List.mem_append_left _ (List.mem_of_getElem? (l := tables_1_2) (i := 149) rfl)))
theorem tc_yX3_write : Cond.code yX3_write cX3_write 8 (some .int) ∈ lw_tbl := List.mem_append_right _ (show _ ∈ tables_1_1 ++ (tables_1_2 ++ (tables_1_3 ++ tables_1_4)) from List.mem_append_right _ (List.mem_append_left _ (List.mem_of_getElem? (l := tables_1_2) (i := 150) rfl)))
theorem tm_X3_216 : Cond.methodLink RX3 216 yX3_fileAt ∈ lw_tbl := List.mem_append_right _ (show _ ∈ tables_1_1 ++ (tables_1_2 ++ (tables_1_3 ++ tables_1_4)) from List.mem_append_right _ (List.mem_append_left _ (List.mem_of_getElem? (l := tables_1_2) (i := 151) rfl)))
theorem ti_yX3_fileAt : Cond.instanceMethod yX3_fileAt ∈ lw_tbl := List.mem_append_right _ (show _ ∈ tables_1_1 ++ (tables_1_2 ++ (tables_1_3 ++ tables_1_4)) from List.mem_append_right _ (List.mem_append_left _ (List.mem_of_getElem? (l := tables_1_2) (i := 153) rfl)))
theorem tc_yX3_fileAt : Cond.code yX3_fileAt cX3_fileAt 3 (some (.object "LabelKernel$ObjectRow")) ∈ lw_tbl := List.mem_append_right _ (show _ ∈ tables_1_1 ++ (tables_1_2 ++ (tables_1_3 ++ tables_1_4)) from List.mem_append_right _ (List.mem_append_left _ (List.mem_of_getElem? (l := tables_1_2) (i := 154) rfl)))
theorem tm_X3_222 : Cond.methodLink RX3 222 yX3_writeRun ∈ lw_tbl := List.mem_append_right _ (show _ ∈ tables_1_1 ++ (tables_1_2 ++ (tables_1_3 ++ tables_1_4)) from List.mem_append_right _ (List.mem_append_left _ (List.mem_of_getElem? (l := tables_1_2) (i := 155) rfl)))
theorem ti_yX3_writeRun : Cond.instanceMethod yX3_writeRun ∈ lw_tbl := List.mem_append_right _ (show _ ∈ tables_1_1 ++ (tables_1_2 ++ (tables_1_3 ++ tables_1_4)) from List.mem_append_right _ (List.mem_append_left _ (List.mem_of_getElem? (l := tables_1_2) (i := 157) rfl)))
theorem tc_yX3_writeRun : Cond.code yX3_writeRun cX3_writeRun 7 (some .int) ∈ lw_tbl := List.mem_append_right _ (show _ ∈ tables_1_1 ++ (tables_1_2 ++ (tables_1_3 ++ tables_1_4)) from List.mem_append_right _ (List.mem_append_left _ (List.mem_of_getElem? (l := tables_1_2) (i := 158) rfl)))
theorem tm_X3_265 : Cond.methodLink RX3 265 yX3_hasRoomUpTo ∈ lw_tbl := List.mem_append_right _ (show _ ∈ tables_1_1 ++ (tables_1_2 ++ (tables_1_3 ++ tables_1_4)) from List.mem_append_right _ (List.mem_append_left _ (List.mem_of_getElem? (l := tables_1_2) (i := 159) rfl)))
theorem ti_yX3_hasRoomUpTo : Cond.instanceMethod yX3_hasRoomUpTo ∈ lw_tbl := List.mem_append_right _ (show _ ∈ tables_1_1 ++ (tables_1_2 ++ (tables_1_3 ++ tables_1_4)) from List.mem_append_right _ (List.mem_append_left _ (List.mem_of_getElem? (l := tables_1_2) (i := 161) rfl)))
theorem tc_yX3_hasRoomUpTo : Cond.code yX3_hasRoomUpTo cX3_hasRoomUpTo 3 (some .boolean) ∈ lw_tbl := List.mem_append_right _ (show _ ∈ tables_1_1 ++ (tables_1_2 ++ (tables_1_3 ++ tables_1_4)) from List.mem_append_right _ (List.mem_append_left _ (List.mem_of_getElem? (l := tables_1_2) (i := 162) rfl)))
theorem tm_X3_272 : Cond.methodLink RX3 272 yX3_blocksFor ∈ lw_tbl := List.mem_append_right _ (show _ ∈ tables_1_1 ++ (tables_1_2 ++ (tables_1_3 ++ tables_1_4)) from List.mem_append_right _ (List.mem_append_left _ (List.mem_of_getElem? (l := tables_1_2) (i := 163) rfl)))
theorem tm_X3_269 : Cond.methodLinkNest RX3 269 yX1_put RX3 ∈ lw_tbl := List.mem_append_right _ (show _ ∈ tables_1_1 ++ (tables_1_2 ++ (tables_1_3 ++ tables_1_4)) from List.mem_append_right _ (List.mem_append_left _ (List.mem_of_getElem? (l := tables_1_2) (i := 164) rfl)))
theorem ti_yX1_put : Cond.instanceMethod yX1_put ∈ lw_tbl := List.mem_append_right _ (show _ ∈ tables_1_1 ++ (tables_1_2 ++ (tables_1_3 ++ tables_1_4)) from List.mem_append_right _ (List.mem_append_left _ (List.mem_of_getElem? (l := tables_1_2) (i := 166) rfl)))
theorem tc_yX1_put : Cond.code yX1_put cX1_put 3 none ∈ lw_tbl := List.mem_append_right _ (show _ ∈ tables_1_1 ++ (tables_1_2 ++ (tables_1_3 ++ tables_1_4)) from List.mem_append_right _ (List.mem_append_left _ (List.mem_of_getElem? (l := tables_1_2) (i := 167) rfl)))
theorem tm_X1_45 : Cond.methodLink RX1 45 Lib.Math.max.name ∈ lw_tbl := List.mem_append_right _ (show _ ∈ tables_1_1 ++ (tables_1_2 ++ (tables_1_3 ++ tables_1_4)) from List.mem_append_right _ (List.mem_append_left _ (List.mem_of_getElem? (l := tables_1_2) (i := 168) rfl)))
theorem ts_Lib_Math_max_name : Cond.static Lib.Math.max.name ∈ lw_tbl := List.mem_append_right _ (show _ ∈ tables_1_1 ++ (tables_1_2 ++ (tables_1_3 ++ tables_1_4)) from List.mem_append_right _ (List.mem_append_left _ (List.mem_of_getElem? (l := tables_1_2) (i := 169) rfl)))
theorem tc_Math : Cond.code Lib.Math.max.name prog_7_method_65_code 2 (some .int) ∈ lw_tbl := List.mem_append_right _ (show _ ∈ tables_1_1 ++ (tables_1_2 ++ (tables_1_3 ++ tables_1_4)) from List.mem_append_right _ (List.mem_append_left _ (List.mem_of_getElem? (l := tables_1_2) (i := 170) rfl)))
theorem tm_L_87 : Cond.methodLink RL 87 yX3_append ∈ lw_tbl := List.mem_append_right _ (show _ ∈ tables_1_1 ++ (tables_1_2 ++ (tables_1_3 ++ tables_1_4)) from List.mem_append_right _ (List.mem_append_left _ (List.mem_of_getElem? (l := tables_1_2) (i := 171) rfl)))
theorem ti_yX3_append : Cond.instanceMethod yX3_append ∈ lw_tbl := List.mem_append_right _ (show _ ∈ tables_1_1 ++ (tables_1_2 ++ (tables_1_3 ++ tables_1_4)) from List.mem_append_right _ (List.mem_append_left _ (List.mem_of_getElem? (l := tables_1_2) (i := 172) rfl)))
theorem te_yX3_append : Cond.selects RX3 yX3_append yX3_append ∈ lw_tbl := List.mem_append_right _ (show _ ∈ tables_1_1 ++ (tables_1_2 ++ (tables_1_3 ++ tables_1_4)) from List.mem_append_right _ (List.mem_append_left _ (List.mem_of_getElem? (l := tables_1_2) (i := 173) rfl)))
theorem tc_yX3_append : Cond.code yX3_append cX3_append 7 (some .int) ∈ lw_tbl := List.mem_append_right _ (show _ ∈ tables_1_1 ++ (tables_1_2 ++ (tables_1_3 ++ tables_1_4)) from List.mem_append_right _ (List.mem_append_left _ (List.mem_of_getElem? (l := tables_1_2) (i := 174) rfl)))
theorem tm_L_91 : Cond.methodLink RL 91 yX3_read ∈ lw_tbl := List.mem_append_right _ (show _ ∈ tables_1_1 ++ (tables_1_2 ++ (tables_1_3 ++ tables_1_4)) from List.mem_append_right _ (List.mem_append_left _ (List.mem_of_getElem? (l := tables_1_2) (i := 175) rfl)))
theorem ti_yX3_read : Cond.instanceMethod yX3_read ∈ lw_tbl := List.mem_append_right _ (show _ ∈ tables_1_1 ++ (tables_1_2 ++ (tables_1_3 ++ tables_1_4)) from List.mem_append_right _ (List.mem_append_left _ (List.mem_of_getElem? (l := tables_1_2) (i := 176) rfl)))
theorem te_yX3_read : Cond.selects RX3 yX3_read yX3_read ∈ lw_tbl := List.mem_append_right _ (show _ ∈ tables_1_1 ++ (tables_1_2 ++ (tables_1_3 ++ tables_1_4)) from List.mem_append_right _ (List.mem_append_left _ (List.mem_of_getElem? (l := tables_1_2) (i := 177) rfl)))
theorem tc_yX3_read : Cond.code yX3_read cX3_read 6 (some .int) ∈ lw_tbl := List.mem_append_right _ (show _ ∈ tables_1_1 ++ (tables_1_2 ++ (tables_1_3 ++ tables_1_4)) from List.mem_append_right _ (List.mem_append_left _ (List.mem_of_getElem? (l := tables_1_2) (i := 178) rfl)))
theorem tm_L_95 : Cond.methodLink RL 95 yX3_object ∈ lw_tbl := List.mem_append_right _ (show _ ∈ tables_1_1 ++ (tables_1_2 ++ (tables_1_3 ++ tables_1_4)) from List.mem_append_right _ (List.mem_append_left _ (List.mem_of_getElem? (l := tables_1_2) (i := 179) rfl)))
theorem ti_yX3_object : Cond.instanceMethod yX3_object ∈ lw_tbl := List.mem_append_right _ (show _ ∈ tables_1_1 ++ (tables_1_2 ++ (tables_1_3 ++ tables_1_4)) from List.mem_append_right _ (List.mem_append_left _ (List.mem_of_getElem? (l := tables_1_2) (i := 180) rfl)))
theorem te_yX3_object : Cond.selects RX3 yX3_object yX3_object ∈ lw_tbl := List.mem_append_right _ (show _ ∈ tables_1_1 ++ (tables_1_2 ++ (tables_1_3 ++ tables_1_4)) from List.mem_append_right _ (List.mem_append_left _ (List.mem_of_getElem? (l := tables_1_2) (i := 181) rfl)))
theorem tc_yX3_object : Cond.code yX3_object cX3_object 7 (some .int) ∈ lw_tbl := List.mem_append_right _ (show _ ∈ tables_1_1 ++ (tables_1_2 ++ (tables_1_3 ++ tables_1_4)) from List.mem_append_right _ (List.mem_append_left _ (List.mem_of_getElem? (l := tables_1_2) (i := 182) rfl)))
theorem tm_L_99 : Cond.methodLink RL 99 yX3_list ∈ lw_tbl := List.mem_append_right _ (show _ ∈ tables_1_1 ++ (tables_1_2 ++ (tables_1_3 ++ tables_1_4)) from List.mem_append_right _ (List.mem_append_left _ (List.mem_of_getElem? (l := tables_1_2) (i := 183) rfl)))
theorem ti_yX3_list : Cond.instanceMethod yX3_list ∈ lw_tbl := List.mem_append_right _ (show _ ∈ tables_1_1 ++ (tables_1_2 ++ (tables_1_3 ++ tables_1_4)) from List.mem_append_right _ (List.mem_append_left _ (List.mem_of_getElem? (l := tables_1_2) (i := 184) rfl)))
theorem te_yX3_list : Cond.selects RX3 yX3_list yX3_list ∈ lw_tbl := List.mem_append_right _ (show _ ∈ tables_1_1 ++ (tables_1_2 ++ (tables_1_3 ++ tables_1_4)) from List.mem_append_right _ (List.mem_append_left _ (List.mem_of_getElem? (l := tables_1_2) (i := 185) rfl)))
theorem tc_yX3_list : Cond.code yX3_list cX3_list 8 (some .int) ∈ lw_tbl := List.mem_append_right _ (show _ ∈ tables_1_1 ++ (tables_1_2 ++ (tables_1_3 ++ tables_1_4)) from List.mem_append_right _ (List.mem_append_left _ (List.mem_of_getElem? (l := tables_1_2) (i := 186) rfl)))
theorem tm_L_103 : Cond.methodLink RL 103 yX3_crash ∈ lw_tbl := List.mem_append_right _ (show _ ∈ tables_1_1 ++ (tables_1_2 ++ (tables_1_3 ++ tables_1_4)) from List.mem_append_right _ (List.mem_append_left _ (List.mem_of_getElem? (l := tables_1_2) (i := 187) rfl)))
theorem ti_yX3_crash : Cond.instanceMethod yX3_crash ∈ lw_tbl := List.mem_append_right _ (show _ ∈ tables_1_1 ++ (tables_1_2 ++ (tables_1_3 ++ tables_1_4)) from List.mem_append_right _ (List.mem_append_left _ (List.mem_of_getElem? (l := tables_1_2) (i := 188) rfl)))
theorem te_yX3_crash : Cond.selects RX3 yX3_crash yX3_crash ∈ lw_tbl := List.mem_append_right _ (show _ ∈ tables_1_1 ++ (tables_1_2 ++ (tables_1_3 ++ tables_1_4)) from List.mem_append_right _ (List.mem_append_left _ (List.mem_of_getElem? (l := tables_1_2) (i := 189) rfl)))
theorem tc_yX3_crash : Cond.code yX3_crash cX3_crash 2 (some .int) ∈ lw_tbl := List.mem_append_right _ (show _ ∈ tables_1_1 ++ (tables_1_2 ++ (tables_1_3 ++ tables_1_4)) from List.mem_append_right _ (List.mem_append_left _ (List.mem_of_getElem? (l := tables_1_2) (i := 190) rfl)))
theorem tm_L_107 : Cond.methodLink RL 107 yX3_count ∈ lw_tbl := List.mem_append_right _ (show _ ∈ tables_1_1 ++ (tables_1_2 ++ (tables_1_3 ++ tables_1_4)) from List.mem_append_right _ (List.mem_append_left _ (List.mem_of_getElem? (l := tables_1_2) (i := 191) rfl)))
theorem ti_yX3_count : Cond.instanceMethod yX3_count ∈ lw_tbl := List.mem_append_right _ (show _ ∈ tables_1_1 ++ (tables_1_2 ++ (tables_1_3 ++ tables_1_4)) from List.mem_append_right _ (List.mem_append_left _ (List.mem_of_getElem? (l := tables_1_2) (i := 192) rfl)))
theorem te_yX3_count : Cond.selects RX3 yX3_count yX3_count ∈ lw_tbl := List.mem_append_right _ (show _ ∈ tables_1_1 ++ (tables_1_2 ++ (tables_1_3 ++ tables_1_4)) from List.mem_append_right _ (List.mem_append_left _ (List.mem_of_getElem? (l := tables_1_2) (i := 193) rfl)))
theorem tc_yX3_count : Cond.code yX3_count cX3_count 2 (some .int) ∈ lw_tbl := List.mem_append_right _ (show _ ∈ tables_1_1 ++ (tables_1_2 ++ (tables_1_3 ++ tables_1_4)) from List.mem_append_right _ (List.mem_append_left _ (List.mem_of_getElem? (l := tables_1_2) (i := 194) rfl)))
theorem tm_X3_237 : Cond.methodLink RX3 237 yX3_livingProcesses ∈ lw_tbl := List.mem_append_right _ (show _ ∈ tables_1_1 ++ (tables_1_2 ++ (tables_1_3 ++ tables_1_4)) from List.mem_append_right _ (List.mem_append_left _ (List.mem_of_getElem? (l := tables_1_2) (i := 195) rfl)))
theorem ti_yX3_livingProcesses : Cond.instanceMethod yX3_livingProcesses ∈ lw_tbl := List.mem_append_right _ (show _ ∈ tables_1_1 ++ (tables_1_2 ++ (tables_1_3 ++ tables_1_4)) from List.mem_append_right _ (List.mem_append_left _ (List.mem_of_getElem? (l := tables_1_2) (i := 197) rfl)))
theorem tc_yX3_livingProcesses : Cond.code yX3_livingProcesses cX3_livingProcesses 3 (some .int) ∈ lw_tbl := List.mem_append_right _ (show _ ∈ tables_1_1 ++ (tables_1_2 ++ (tables_1_3 ++ tables_1_4)) from List.mem_append_right _ (List.mem_append_left _ (List.mem_of_getElem? (l := tables_1_2) (i := 198) rfl)))
theorem tm_X3_241 : Cond.methodLink RX3 241 yX3_openEndpoints ∈ lw_tbl := List.mem_append_right _ (show _ ∈ tables_1_1 ++ (tables_1_2 ++ (tables_1_3 ++ tables_1_4)) from List.mem_append_right _ (List.mem_append_left _ (List.mem_of_getElem? (l := tables_1_2) (i := 199) rfl)))
theorem ti_yX3_openEndpoints : Cond.instanceMethod yX3_openEndpoints ∈ lw_tbl := List.mem_append_right _ (show _ ∈ tables_1_1 ++ (tables_1_2 ++ (tables_1_3 ++ tables_1_4)) from List.mem_append_right _ (List.mem_append_left _ (List.mem_of_getElem? (l := tables_1_2) (i := 201) rfl)))
theorem tc_yX3_openEndpoints : Cond.code yX3_openEndpoints cX3_openEndpoints 3 (some .int) ∈ lw_tbl := List.mem_append_right _ (show _ ∈ tables_1_1 ++ (tables_1_2 ++ (tables_1_3 ++ tables_1_4)) from List.mem_append_right _ (List.mem_append_left _ (List.mem_of_getElem? (l := tables_1_2) (i := 202) rfl)))
theorem tm_X3_244 : Cond.methodLink RX3 244 yX3_objectsThere ∈ lw_tbl := List.mem_append_right _ (show _ ∈ tables_1_1 ++ (tables_1_2 ++ (tables_1_3 ++ tables_1_4)) from List.mem_append_right _ (List.mem_append_left _ (List.mem_of_getElem? (l := tables_1_2) (i := 203) rfl)))
theorem ti_yX3_objectsThere : Cond.instanceMethod yX3_objectsThere ∈ lw_tbl := List.mem_append_right _ (show _ ∈ tables_1_1 ++ (tables_1_2 ++ (tables_1_3 ++ tables_1_4)) from List.mem_append_right _ (List.mem_append_left _ (List.mem_of_getElem? (l := tables_1_2) (i := 205) rfl)))
theorem tc_yX3_objectsThere : Cond.code yX3_objectsThere cX3_objectsThere 3 (some .int) ∈ lw_tbl := List.mem_append_right _ (show _ ∈ tables_1_1 ++ (tables_1_2 ++ (tables_1_3 ++ tables_1_4)) from List.mem_append_right _ (List.mem_append_left _ (List.mem_of_getElem? (l := tables_1_2) (i := 206) rfl)))
theorem tl_L_10 : Cond.classLink RL 10 RX4 ∈ lw_tbl := List.mem_append_right _ (show _ ∈ tables_1_1 ++ (tables_1_2 ++ (tables_1_3 ++ tables_1_4)) from List.mem_append_right _ (List.mem_append_left _ (List.mem_of_getElem? (l := tables_1_2) (i := 207) rfl)))
theorem tn_X4 : Cond.instantiable RX4 33 ∈ lw_tbl := List.mem_append_right _ (show _ ∈ tables_1_1 ++ (tables_1_2 ++ (tables_1_3 ++ tables_1_4)) from List.mem_append_right _ (List.mem_append_left _ (List.mem_of_getElem? (l := tables_1_2) (i := 208) rfl)))
theorem tm_L_12 : Cond.methodLink RL 12 yX4_init ∈ lw_tbl := List.mem_append_right _ (show _ ∈ tables_1_1 ++ (tables_1_2 ++ (tables_1_3 ++ tables_1_4)) from List.mem_append_right _ (List.mem_append_left _ (List.mem_of_getElem? (l := tables_1_2) (i := 209) rfl)))
theorem ti_yX4_init : Cond.instanceMethod yX4_init ∈ lw_tbl := List.mem_append_right _ (show _ ∈ tables_1_1 ++ (tables_1_2 ++ (tables_1_3 ++ tables_1_4)) from List.mem_append_right _ (List.mem_append_left _ (List.mem_of_getElem? (l := tables_1_2) (i := 210) rfl)))
theorem tc_yX4_init : Cond.code yX4_init cX4_init 1 none ∈ lw_tbl := List.mem_append_right _ (show _ ∈ tables_1_1 ++ (tables_1_2 ++ (tables_1_3 ++ tables_1_4)) from List.mem_append_right _ (List.mem_append_left _ (List.mem_of_getElem? (l := tables_1_2) (i := 211) rfl)))
theorem tm_X4_1 : Cond.methodLink RX4 1 objectInit ∈ lw_tbl := List.mem_append_right _ (show _ ∈ tables_1_1 ++ (tables_1_2 ++ (tables_1_3 ++ tables_1_4)) from List.mem_append_right _ (List.mem_append_left _ (List.mem_of_getElem? (l := tables_1_2) (i := 212) rfl)))
theorem tm_X4_87 : Cond.methodLink RX4 87 yX4_begin ∈ lw_tbl := List.mem_append_right _ (show _ ∈ tables_1_1 ++ (tables_1_2 ++ (tables_1_3 ++ tables_1_4)) from List.mem_append_right _ (List.mem_append_left _ (List.mem_of_getElem? (l := tables_1_2) (i := 213) rfl)))
theorem ti_yX4_begin : Cond.instanceMethod yX4_begin ∈ lw_tbl := List.mem_append_right _ (show _ ∈ tables_1_1 ++ (tables_1_2 ++ (tables_1_3 ++ tables_1_4)) from List.mem_append_right _ (List.mem_append_left _ (List.mem_of_getElem? (l := tables_1_2) (i := 215) rfl)))
theorem tc_yX4_begin : Cond.code yX4_begin cX4_begin 2 none ∈ lw_tbl := List.mem_append_right _ (show _ ∈ tables_1_1 ++ (tables_1_2 ++ (tables_1_3 ++ tables_1_4)) from List.mem_append_right _ (List.mem_append_left _ (List.mem_of_getElem? (l := tables_1_2) (i := 216) rfl)))
theorem tf_X4_97 : Cond.fieldLink RX4 97 RX4 "tags" "I" ∈ lw_tbl := List.mem_append_right _ (show _ ∈ tables_1_1 ++ (tables_1_2 ++ (tables_1_3 ++ tables_1_4)) from List.mem_append_right _ (List.mem_append_left _ (List.mem_of_getElem? (l := tables_1_2) (i := 217) rfl)))
theorem tf_X4_112 : Cond.fieldLink RX4 112 RX4 "allPlus" "I" ∈ lw_tbl := List.mem_append_right _ (show _ ∈ tables_1_1 ++ (tables_1_2 ++ (tables_1_3 ++ tables_1_4)) from List.mem_append_right _ (List.mem_append_left _ (List.mem_of_getElem? (l := tables_1_2) (i := 218) rfl)))
theorem tf_X4_115 : Cond.fieldLink RX4 115 RX4 "allMinus" "I" ∈ lw_tbl := List.mem_append_right _ (show _ ∈ tables_1_1 ++ (tables_1_2 ++ (tables_1_3 ++ tables_1_4)) from List.mem_append_right _ (List.mem_append_left _ (List.mem_of_getElem? (l := tables_1_2) (i := 219) rfl)))
theorem tf_X4_84 : Cond.fieldLink RX4 84 RX4 "processes" "I" ∈ lw_tbl := List.mem_append_right _ (show _ ∈ tables_1_1 ++ (tables_1_2 ++ (tables_1_3 ++ tables_1_4)) from List.mem_append_right _ (List.mem_append_left _ (List.mem_of_getElem? (l := tables_1_2) (i := 220) rfl)))
theorem tf_X4_7 : Cond.fieldLink RX4 7 RX4 "runs" "[Z" ∈ lw_tbl := List.mem_append_right _ (show _ ∈ tables_1_1 ++ (tables_1_2 ++ (tables_1_3 ++ tables_1_4)) from List.mem_append_right _ (List.mem_append_left _ (List.mem_of_getElem? (l := tables_1_2) (i := 221) rfl)))
theorem tf_X4_13 : Cond.fieldLink RX4 13 RX4 "secrets" "[I" ∈ lw_tbl := List.mem_append_right _ (show _ ∈ tables_1_1 ++ (tables_1_2 ++ (tables_1_3 ++ tables_1_4)) from List.mem_append_right _ (List.mem_append_left _ (List.mem_of_getElem? (l := tables_1_2) (i := 222) rfl)))
theorem tf_X4_17 : Cond.fieldLink RX4 17 RX4 "seals" "[I" ∈ lw_tbl := List.mem_append_right _ (show _ ∈ tables_1_1 ++ (tables_1_2 ++ (tables_1_3 ++ tables_1_4)) from List.mem_append_right _ (List.mem_append_left _ (List.mem_of_getElem? (l := tables_1_2) (i := 223) rfl)))
theorem tf_X4_20 : Cond.fieldLink RX4 20 RX4 "plus" "[I" ∈ lw_tbl := List.mem_append_right _ (show _ ∈ tables_1_1 ++ (tables_1_2 ++ (tables_1_3 ++ tables_1_4)) from List.mem_append_right _ (List.mem_append_left _ (List.mem_of_getElem? (l := tables_1_2) (i := 224) rfl)))
theorem tf_X4_23 : Cond.fieldLink RX4 23 RX4 "minus" "[I" ∈ lw_tbl := List.mem_append_right _ (show _ ∈ tables_1_1 ++ (tables_1_2 ++ (tables_1_3 ++ tables_1_4)) from List.mem_append_right _ (List.mem_append_left _ (List.mem_of_getElem? (l := tables_1_2) (i := 225) rfl)))
theorem tf_X4_26 : Cond.fieldLink RX4 26 RX4 "parents" "[I" ∈ lw_tbl := List.mem_append_right _ (show _ ∈ tables_1_1 ++ (tables_1_2 ++ (tables_1_3 ++ tables_1_4)) from List.mem_append_right _ (List.mem_append_left _ (List.mem_of_getElem? (l := tables_1_2) (i := 226) rfl)))
theorem tf_X4_29 : Cond.fieldLink RX4 29 RX4 "taken" "[I" ∈ lw_tbl := List.mem_append_right _ (show _ ∈ tables_1_1 ++ (tables_1_2 ++ (tables_1_3 ++ tables_1_4)) from List.mem_append_right _ (List.mem_append_left _ (List.mem_of_getElem? (l := tables_1_2) (i := 227) rfl)))
theorem tf_X4_100 : Cond.fieldLink RX4 100 RX4 "endpoints" "I" ∈ lw_tbl := List.mem_append_right _ (show _ ∈ tables_1_1 ++ (tables_1_2 ++ (tables_1_3 ++ tables_1_4)) from List.mem_append_right _ (List.mem_append_left _ (List.mem_of_getElem? (l := tables_1_2) (i := 228) rfl)))
theorem tf_X4_32 : Cond.fieldLink RX4 32 RX4 "isOpen" "[Z" ∈ lw_tbl := List.mem_append_right _ (show _ ∈ tables_1_1 ++ (tables_1_2 ++ (tables_1_3 ++ tables_1_4)) from List.mem_append_right _ (List.mem_append_left _ (List.mem_of_getElem? (l := tables_1_2) (i := 229) rfl)))
theorem tf_X4_35 : Cond.fieldLink RX4 35 RX4 "owners" "[I" ∈ lw_tbl := List.mem_append_right _ (show _ ∈ tables_1_1 ++ (tables_1_2 ++ (tables_1_3 ++ tables_1_4)) from List.mem_append_right _ (List.mem_append_left _ (List.mem_of_getElem? (l := tables_1_2) (i := 230) rfl)))
theorem tf_X4_38 : Cond.fieldLink RX4 38 RX4 "portSecrets" "[I" ∈ lw_tbl := List.mem_append_right _ (show _ ∈ tables_1_1 ++ (tables_1_2 ++ (tables_1_3 ++ tables_1_4)) from List.mem_append_right _ (List.mem_append_left _ (List.mem_of_getElem? (l := tables_1_2) (i := 231) rfl)))
theorem tf_X4_41 : Cond.fieldLink RX4 41 RX4 "portSeals" "[I" ∈ lw_tbl := List.mem_append_right _ (show _ ∈ tables_1_1 ++ (tables_1_2 ++ (tables_1_3 ++ tables_1_4)) from List.mem_append_right _ (List.mem_append_left _ (List.mem_of_getElem? (l := tables_1_2) (i := 232) rfl)))
theorem tf_X4_44 : Cond.fieldLink RX4 44 RX4 "queued" "[I" ∈ lw_tbl := List.mem_append_right _ (show _ ∈ tables_1_1 ++ (tables_1_2 ++ (tables_1_3 ++ tables_1_4)) from List.mem_append_right _ (List.mem_append_left _ (List.mem_of_getElem? (l := tables_1_2) (i := 233) rfl)))
theorem tf_X4_47 : Cond.fieldLink RX4 47 RX4 "queues" "[I" ∈ lw_tbl := List.mem_append_right _ (show _ ∈ tables_1_1 ++ (tables_1_2 ++ (tables_1_3 ++ tables_1_4)) from List.mem_append_right _ (List.mem_append_left _ (List.mem_of_getElem? (l := tables_1_2) (i := 234) rfl)))
theorem tf_X4_90 : Cond.fieldLink RX4 90 RX4 "objects" "I" ∈ lw_tbl := List.mem_append_right _ (show _ ∈ tables_1_1 ++ (tables_1_2 ++ (tables_1_3 ++ tables_1_4)) from List.mem_append_right _ (List.mem_append_left _ (List.mem_of_getElem? (l := tables_1_2) (i := 235) rfl)))
theorem tf_X4_50 : Cond.fieldLink RX4 50 RX4 "isThere" "[Z" ∈ lw_tbl := List.mem_append_right _ (show _ ∈ tables_1_1 ++ (tables_1_2 ++ (tables_1_3 ++ tables_1_4)) from List.mem_append_right _ (List.mem_append_left _ (List.mem_of_getElem? (l := tables_1_2) (i := 236) rfl)))
theorem tf_X4_53 : Cond.fieldLink RX4 53 RX4 "isContainer" "[Z" ∈ lw_tbl := List.mem_append_right _ (show _ ∈ tables_1_1 ++ (tables_1_2 ++ (tables_1_3 ++ tables_1_4)) from List.mem_append_right _ (List.mem_append_left _ (List.mem_of_getElem? (l := tables_1_2) (i := 237) rfl)))
theorem tf_X4_56 : Cond.fieldLink RX4 56 RX4 "objectSecrets" "[I" ∈ lw_tbl := List.mem_append_right _ (show _ ∈ tables_1_1 ++ (tables_1_2 ++ (tables_1_3 ++ tables_1_4)) from List.mem_append_right _ (List.mem_append_left _ (List.mem_of_getElem? (l := tables_1_2) (i := 238) rfl)))
theorem tf_X4_59 : Cond.fieldLink RX4 59 RX4 "objectSeals" "[I" ∈ lw_tbl := List.mem_append_right _ (show _ ∈ tables_1_1 ++ (tables_1_2 ++ (tables_1_3 ++ tables_1_4)) from List.mem_append_right _ (List.mem_append_left _ (List.mem_of_getElem? (l := tables_1_2) (i := 239) rfl)))
theorem tf_X4_62 : Cond.fieldLink RX4 62 RX4 "in" "[I" ∈ lw_tbl := List.mem_append_right _ (show _ ∈ tables_1_1 ++ (tables_1_2 ++ (tables_1_3 ++ tables_1_4)) from List.mem_append_right _ (List.mem_append_right _ (List.mem_append_left _ (List.mem_of_getElem? (l := tables_1_3) (i := 0) rfl))))
theorem tf_X4_65 : Cond.fieldLink RX4 65 RX4 "blocks" "[I" ∈ lw_tbl := List.mem_append_right _ (show _ ∈ tables_1_1 ++ (tables_1_2 ++ (tables_1_3 ++ tables_1_4)) from List.mem_append_right _ (List.mem_append_right _ (List.mem_append_left _ (List.mem_of_getElem? (l := tables_1_3) (i := 1) rfl))))
theorem tf_X4_68 : Cond.fieldLink RX4 68 RX4 "rooms" "[I" ∈ lw_tbl := List.mem_append_right _ (show _ ∈ tables_1_1 ++ (tables_1_2 ++ (tables_1_3 ++ tables_1_4)) from List.mem_append_right _ (List.mem_append_right _ (List.mem_append_left _ (List.mem_of_getElem? (l := tables_1_3) (i := 2) rfl))))
theorem tf_X4_71 : Cond.fieldLink RX4 71 RX4 "many" "[I" ∈ lw_tbl := List.mem_append_right _ (show _ ∈ tables_1_1 ++ (tables_1_2 ++ (tables_1_3 ++ tables_1_4)) from List.mem_append_right _ (List.mem_append_right _ (List.mem_append_left _ (List.mem_of_getElem? (l := tables_1_3) (i := 3) rfl))))
theorem tf_X4_74 : Cond.fieldLink RX4 74 RX4 "numbers" "[I" ∈ lw_tbl := List.mem_append_right _ (show _ ∈ tables_1_1 ++ (tables_1_2 ++ (tables_1_3 ++ tables_1_4)) from List.mem_append_right _ (List.mem_append_right _ (List.mem_append_left _ (List.mem_of_getElem? (l := tables_1_3) (i := 4) rfl))))
theorem tf_X4_77 : Cond.fieldLink RX4 77 RX4 "crash" "I" ∈ lw_tbl := List.mem_append_right _ (show _ ∈ tables_1_1 ++ (tables_1_2 ++ (tables_1_3 ++ tables_1_4)) from List.mem_append_right _ (List.mem_append_right _ (List.mem_append_left _ (List.mem_of_getElem? (l := tables_1_3) (i := 5) rfl))))
theorem tf_X4_158 : Cond.fieldLink RX4 158 RX4 "entries" "I" ∈ lw_tbl := List.mem_append_right _ (show _ ∈ tables_1_1 ++ (tables_1_2 ++ (tables_1_3 ++ tables_1_4)) from List.mem_append_right _ (List.mem_append_right _ (List.mem_append_left _ (List.mem_of_getElem? (l := tables_1_3) (i := 6) rfl))))
theorem tf_X4_161 : Cond.fieldLink RX4 161 RX4 "crashes" "I" ∈ lw_tbl := List.mem_append_right _ (show _ ∈ tables_1_1 ++ (tables_1_2 ++ (tables_1_3 ++ tables_1_4)) from List.mem_append_right _ (List.mem_append_right _ (List.mem_append_left _ (List.mem_of_getElem? (l := tables_1_3) (i := 7) rfl))))
theorem tf_X4_152 : Cond.fieldLink RX4 152 RX4 "lost" "I" ∈ lw_tbl := List.mem_append_right _ (show _ ∈ tables_1_1 ++ (tables_1_2 ++ (tables_1_3 ++ tables_1_4)) from List.mem_append_right _ (List.mem_append_right _ (List.mem_append_left _ (List.mem_of_getElem? (l := tables_1_3) (i := 8) rfl))))
theorem tf_X4_81 : Cond.fieldLink RX4 81 RX4 "goesToo" "[Z" ∈ lw_tbl := List.mem_append_right _ (show _ ∈ tables_1_1 ++ (tables_1_2 ++ (tables_1_3 ++ tables_1_4)) from List.mem_append_right _ (List.mem_append_right _ (List.mem_append_left _ (List.mem_of_getElem? (l := tables_1_3) (i := 9) rfl))))
theorem ta_boolean : Cond.arrayClass .boolean ∈ lw_tbl := List.mem_append_right _ (show _ ∈ tables_1_1 ++ (tables_1_2 ++ (tables_1_3 ++ tables_1_4)) from List.mem_append_right _ (List.mem_append_right _ (List.mem_append_left _ (List.mem_of_getElem? (l := tables_1_3) (i := 77) rfl))))
theorem tm_L_17 : Cond.methodLink RL 17 yX4_tag ∈ lw_tbl := List.mem_append_right _ (show _ ∈ tables_1_1 ++ (tables_1_2 ++ (tables_1_3 ++ tables_1_4)) from List.mem_append_right _ (List.mem_append_right _ (List.mem_append_left _ (List.mem_of_getElem? (l := tables_1_3) (i := 78) rfl))))
theorem ti_yX4_tag : Cond.instanceMethod yX4_tag ∈ lw_tbl := List.mem_append_right _ (show _ ∈ tables_1_1 ++ (tables_1_2 ++ (tables_1_3 ++ tables_1_4)) from List.mem_append_right _ (List.mem_append_right _ (List.mem_append_left _ (List.mem_of_getElem? (l := tables_1_3) (i := 79) rfl))))
theorem te_yX4_tag : Cond.selects RX4 yX4_tag yX4_tag ∈ lw_tbl := List.mem_append_right _ (show _ ∈ tables_1_1 ++ (tables_1_2 ++ (tables_1_3 ++ tables_1_4)) from List.mem_append_right _ (List.mem_append_right _ (List.mem_append_left _ (List.mem_of_getElem? (l := tables_1_3) (i := 80) rfl))))
theorem tc_yX4_tag : Cond.code yX4_tag cX4_tag 4 (some .int) ∈ lw_tbl := List.mem_append_right _ (show _ ∈ tables_1_1 ++ (tables_1_2 ++ (tables_1_3 ++ tables_1_4)) from List.mem_append_right _ (List.mem_append_right _ (List.mem_append_left _ (List.mem_of_getElem? (l := tables_1_3) (i := 81) rfl))))
theorem tm_X4_103 : Cond.methodLink RX4 103 yX4_isProcess ∈ lw_tbl := List.mem_append_right _ (show _ ∈ tables_1_1 ++ (tables_1_2 ++ (tables_1_3 ++ tables_1_4)) from List.mem_append_right _ (List.mem_append_right _ (List.mem_append_left _ (List.mem_of_getElem? (l := tables_1_3) (i := 82) rfl))))
theorem ti_yX4_isProcess : Cond.instanceMethod yX4_isProcess ∈ lw_tbl := List.mem_append_right _ (show _ ∈ tables_1_1 ++ (tables_1_2 ++ (tables_1_3 ++ tables_1_4)) from List.mem_append_right _ (List.mem_append_right _ (List.mem_append_left _ (List.mem_of_getElem? (l := tables_1_3) (i := 84) rfl))))
theorem tc_yX4_isProcess : Cond.code yX4_isProcess cX4_isProcess 2 (some .boolean) ∈ lw_tbl := List.mem_append_right _ (show _ ∈ tables_1_1 ++ (tables_1_2 ++ (tables_1_3 ++ tables_1_4)) from List.mem_append_right _ (List.mem_append_right _ (List.mem_append_left _ (List.mem_of_getElem? (l := tables_1_3) (i := 85) rfl))))
theorem tm_X4_93 : Cond.methodLink RX4 93 yX4_within ∈ lw_tbl := List.mem_append_right _ (show _ ∈ tables_1_1 ++ (tables_1_2 ++ (tables_1_3 ++ tables_1_4)) from List.mem_append_right _ (List.mem_append_right _ (List.mem_append_left _ (List.mem_of_getElem? (l := tables_1_3) (i := 86) rfl))))
theorem ts_yX4_within : Cond.static yX4_within ∈ lw_tbl := List.mem_append_right _ (show _ ∈ tables_1_1 ++ (tables_1_2 ++ (tables_1_3 ++ tables_1_4)) from List.mem_append_right _ (List.mem_append_right _ (List.mem_append_left _ (List.mem_of_getElem? (l := tables_1_3) (i := 87) rfl))))
theorem tc_yX4_within : Cond.code yX4_within cX4_within 6 (some .boolean) ∈ lw_tbl := List.mem_append_right _ (show _ ∈ tables_1_1 ++ (tables_1_2 ++ (tables_1_3 ++ tables_1_4)) from List.mem_append_right _ (List.mem_append_right _ (List.mem_append_left _ (List.mem_of_getElem? (l := tables_1_3) (i := 88) rfl))))
theorem tk_X4_107 : Cond.constant RX4 107 (-1000001) ∈ lw_tbl := List.mem_append_right _ (show _ ∈ tables_1_1 ++ (tables_1_2 ++ (tables_1_3 ++ tables_1_4)) from List.mem_append_right _ (List.mem_append_right _ (List.mem_append_left _ (List.mem_of_getElem? (l := tables_1_3) (i := 89) rfl))))
theorem tk_X4_108 : Cond.constantLong RX4 108 (2) ∈ lw_tbl := List.mem_append_right _ (show _ ∈ tables_1_1 ++ (tables_1_2 ++ (tables_1_3 ++ tables_1_4)) from List.mem_append_right _ (List.mem_append_right _ (List.mem_append_left _ (List.mem_of_getElem? (l := tables_1_3) (i := 90) rfl))))
theorem tk_X4_110 : Cond.constant RX4 110 (-1000002) ∈ lw_tbl := List.mem_append_right _ (show _ ∈ tables_1_1 ++ (tables_1_2 ++ (tables_1_3 ++ tables_1_4)) from List.mem_append_right _ (List.mem_append_right _ (List.mem_append_left _ (List.mem_of_getElem? (l := tables_1_3) (i := 91) rfl))))
theorem tk_X4_111 : Cond.constant RX4 111 (-1000004) ∈ lw_tbl := List.mem_append_right _ (show _ ∈ tables_1_1 ++ (tables_1_2 ++ (tables_1_3 ++ tables_1_4)) from List.mem_append_right _ (List.mem_append_right _ (List.mem_append_left _ (List.mem_of_getElem? (l := tables_1_3) (i := 92) rfl))))
theorem tm_L_22 : Cond.methodLink RL 22 yX4_everybody ∈ lw_tbl := List.mem_append_right _ (show _ ∈ tables_1_1 ++ (tables_1_2 ++ (tables_1_3 ++ tables_1_4)) from List.mem_append_right _ (List.mem_append_right _ (List.mem_append_left _ (List.mem_of_getElem? (l := tables_1_3) (i := 93) rfl))))
theorem ti_yX4_everybody : Cond.instanceMethod yX4_everybody ∈ lw_tbl := List.mem_append_right _ (show _ ∈ tables_1_1 ++ (tables_1_2 ++ (tables_1_3 ++ tables_1_4)) from List.mem_append_right _ (List.mem_append_right _ (List.mem_append_left _ (List.mem_of_getElem? (l := tables_1_3) (i := 94) rfl))))
theorem te_yX4_everybody : Cond.selects RX4 yX4_everybody yX4_everybody ∈ lw_tbl := List.mem_append_right _ (show _ ∈ tables_1_1 ++ (tables_1_2 ++ (tables_1_3 ++ tables_1_4)) from List.mem_append_right _ (List.mem_append_right _ (List.mem_append_left _ (List.mem_of_getElem? (l := tables_1_3) (i := 95) rfl))))
theorem tc_yX4_everybody : Cond.code yX4_everybody cX4_everybody 2 (some .int) ∈ lw_tbl := List.mem_append_right _ (show _ ∈ tables_1_1 ++ (tables_1_2 ++ (tables_1_3 ++ tables_1_4)) from List.mem_append_right _ (List.mem_append_right _ (List.mem_append_left _ (List.mem_of_getElem? (l := tables_1_3) (i := 96) rfl))))
theorem tm_L_26 : Cond.methodLink RL 26 yX4_told ∈ lw_tbl := List.mem_append_right _ (show _ ∈ tables_1_1 ++ (tables_1_2 ++ (tables_1_3 ++ tables_1_4)) from List.mem_append_right _ (List.mem_append_right _ (List.mem_append_left _ (List.mem_of_getElem? (l := tables_1_3) (i := 97) rfl))))
theorem ti_yX4_told : Cond.instanceMethod yX4_told ∈ lw_tbl := List.mem_append_right _ (show _ ∈ tables_1_1 ++ (tables_1_2 ++ (tables_1_3 ++ tables_1_4)) from List.mem_append_right _ (List.mem_append_right _ (List.mem_append_left _ (List.mem_of_getElem? (l := tables_1_3) (i := 98) rfl))))
theorem te_yX4_told : Cond.selects RX4 yX4_told yX4_told ∈ lw_tbl := List.mem_append_right _ (show _ ∈ tables_1_1 ++ (tables_1_2 ++ (tables_1_3 ++ tables_1_4)) from List.mem_append_right _ (List.mem_append_right _ (List.mem_append_left _ (List.mem_of_getElem? (l := tables_1_3) (i := 99) rfl))))
theorem tc_yX4_told : Cond.code yX4_told cX4_told 3 (some .int) ∈ lw_tbl := List.mem_append_right _ (show _ ∈ tables_1_1 ++ (tables_1_2 ++ (tables_1_3 ++ tables_1_4)) from List.mem_append_right _ (List.mem_append_right _ (List.mem_append_left _ (List.mem_of_getElem? (l := tables_1_3) (i := 100) rfl))))
theorem tm_X4_118 : Cond.methodLink RX4 118 yX4_openOf ∈ lw_tbl := List.mem_append_right _ (show _ ∈ tables_1_1 ++ (tables_1_2 ++ (tables_1_3 ++ tables_1_4)) from List.mem_append_right _ (List.mem_append_right _ (List.mem_append_left _ (List.mem_of_getElem? (l := tables_1_3) (i := 101) rfl))))
theorem ti_yX4_openOf : Cond.instanceMethod yX4_openOf ∈ lw_tbl := List.mem_append_right _ (show _ ∈ tables_1_1 ++ (tables_1_2 ++ (tables_1_3 ++ tables_1_4)) from List.mem_append_right _ (List.mem_append_right _ (List.mem_append_left _ (List.mem_of_getElem? (l := tables_1_3) (i := 103) rfl))))
theorem tc_yX4_openOf : Cond.code yX4_openOf cX4_openOf 4 (some .int) ∈ lw_tbl := List.mem_append_right _ (show _ ∈ tables_1_1 ++ (tables_1_2 ++ (tables_1_3 ++ tables_1_4)) from List.mem_append_right _ (List.mem_append_right _ (List.mem_append_left _ (List.mem_of_getElem? (l := tables_1_3) (i := 104) rfl))))
theorem tm_X4_122 : Cond.methodLink RX4 122 yX4_bothOf ∈ lw_tbl := List.mem_append_right _ (show _ ∈ tables_1_1 ++ (tables_1_2 ++ (tables_1_3 ++ tables_1_4)) from List.mem_append_right _ (List.mem_append_right _ (List.mem_append_left _ (List.mem_of_getElem? (l := tables_1_3) (i := 105) rfl))))
theorem ti_yX4_bothOf : Cond.instanceMethod yX4_bothOf ∈ lw_tbl := List.mem_append_right _ (show _ ∈ tables_1_1 ++ (tables_1_2 ++ (tables_1_3 ++ tables_1_4)) from List.mem_append_right _ (List.mem_append_right _ (List.mem_append_left _ (List.mem_of_getElem? (l := tables_1_3) (i := 107) rfl))))
theorem tc_yX4_bothOf : Cond.code yX4_bothOf cX4_bothOf 2 (some .int) ∈ lw_tbl := List.mem_append_right _ (show _ ∈ tables_1_1 ++ (tables_1_2 ++ (tables_1_3 ++ tables_1_4)) from List.mem_append_right _ (List.mem_append_right _ (List.mem_append_left _ (List.mem_of_getElem? (l := tables_1_3) (i := 108) rfl))))
theorem tm_L_31 : Cond.methodLink RL 31 yX4_label ∈ lw_tbl := List.mem_append_right _ (show _ ∈ tables_1_1 ++ (tables_1_2 ++ (tables_1_3 ++ tables_1_4)) from List.mem_append_right _ (List.mem_append_right _ (List.mem_append_left _ (List.mem_of_getElem? (l := tables_1_3) (i := 109) rfl))))
theorem ti_yX4_label : Cond.instanceMethod yX4_label ∈ lw_tbl := List.mem_append_right _ (show _ ∈ tables_1_1 ++ (tables_1_2 ++ (tables_1_3 ++ tables_1_4)) from List.mem_append_right _ (List.mem_append_right _ (List.mem_append_left _ (List.mem_of_getElem? (l := tables_1_3) (i := 110) rfl))))
theorem te_yX4_label : Cond.selects RX4 yX4_label yX4_label ∈ lw_tbl := List.mem_append_right _ (show _ ∈ tables_1_1 ++ (tables_1_2 ++ (tables_1_3 ++ tables_1_4)) from List.mem_append_right _ (List.mem_append_right _ (List.mem_append_left _ (List.mem_of_getElem? (l := tables_1_3) (i := 111) rfl))))
theorem tc_yX4_label : Cond.code yX4_label cX4_label 5 (some .int) ∈ lw_tbl := List.mem_append_right _ (show _ ∈ tables_1_1 ++ (tables_1_2 ++ (tables_1_3 ++ tables_1_4)) from List.mem_append_right _ (List.mem_append_right _ (List.mem_append_left _ (List.mem_of_getElem? (l := tables_1_3) (i := 112) rfl))))
theorem tm_X4_129 : Cond.methodLink RX4 129 yX4_isSet ∈ lw_tbl := List.mem_append_right _ (show _ ∈ tables_1_1 ++ (tables_1_2 ++ (tables_1_3 ++ tables_1_4)) from List.mem_append_right _ (List.mem_append_right _ (List.mem_append_left _ (List.mem_of_getElem? (l := tables_1_3) (i := 113) rfl))))
theorem ti_yX4_isSet : Cond.instanceMethod yX4_isSet ∈ lw_tbl := List.mem_append_right _ (show _ ∈ tables_1_1 ++ (tables_1_2 ++ (tables_1_3 ++ tables_1_4)) from List.mem_append_right _ (List.mem_append_right _ (List.mem_append_left _ (List.mem_of_getElem? (l := tables_1_3) (i := 115) rfl))))
theorem tc_yX4_isSet : Cond.code yX4_isSet cX4_isSet 2 (some .boolean) ∈ lw_tbl := List.mem_append_right _ (show _ ∈ tables_1_1 ++ (tables_1_2 ++ (tables_1_3 ++ tables_1_4)) from List.mem_append_right _ (List.mem_append_right _ (List.mem_append_left _ (List.mem_of_getElem? (l := tables_1_3) (i := 116) rfl))))
theorem tm_X4_132 : Cond.methodLink RX4 132 yX4_isSafe ∈ lw_tbl := List.mem_append_right _ (show _ ∈ tables_1_1 ++ (tables_1_2 ++ (tables_1_3 ++ tables_1_4)) from List.mem_append_right _ (List.mem_append_right _ (List.mem_append_left _ (List.mem_of_getElem? (l := tables_1_3) (i := 117) rfl))))
theorem ti_yX4_isSafe : Cond.instanceMethod yX4_isSafe ∈ lw_tbl := List.mem_append_right _ (show _ ∈ tables_1_1 ++ (tables_1_2 ++ (tables_1_3 ++ tables_1_4)) from List.mem_append_right _ (List.mem_append_right _ (List.mem_append_left _ (List.mem_of_getElem? (l := tables_1_3) (i := 119) rfl))))
theorem tc_yX4_isSafe : Cond.code yX4_isSafe cX4_isSafe 4 (some .boolean) ∈ lw_tbl := List.mem_append_right _ (show _ ∈ tables_1_1 ++ (tables_1_2 ++ (tables_1_3 ++ tables_1_4)) from List.mem_append_right _ (List.mem_append_right _ (List.mem_append_left _ (List.mem_of_getElem? (l := tables_1_3) (i := 120) rfl))))
theorem tk_X4_135 : Cond.constant RX4 135 (-1000003) ∈ lw_tbl := List.mem_append_right _ (show _ ∈ tables_1_1 ++ (tables_1_2 ++ (tables_1_3 ++ tables_1_4)) from List.mem_append_right _ (List.mem_append_right _ (List.mem_append_left _ (List.mem_of_getElem? (l := tables_1_3) (i := 121) rfl))))
theorem tm_X4_136 : Cond.methodLink RX4 136 yX4_putLabel ∈ lw_tbl := List.mem_append_right _ (show _ ∈ tables_1_1 ++ (tables_1_2 ++ (tables_1_3 ++ tables_1_4)) from List.mem_append_right _ (List.mem_append_right _ (List.mem_append_left _ (List.mem_of_getElem? (l := tables_1_3) (i := 122) rfl))))
theorem ti_yX4_putLabel : Cond.instanceMethod yX4_putLabel ∈ lw_tbl := List.mem_append_right _ (show _ ∈ tables_1_1 ++ (tables_1_2 ++ (tables_1_3 ++ tables_1_4)) from List.mem_append_right _ (List.mem_append_right _ (List.mem_append_left _ (List.mem_of_getElem? (l := tables_1_3) (i := 124) rfl))))
theorem tc_yX4_putLabel : Cond.code yX4_putLabel cX4_putLabel 4 none ∈ lw_tbl := List.mem_append_right _ (show _ ∈ tables_1_1 ++ (tables_1_2 ++ (tables_1_3 ++ tables_1_4)) from List.mem_append_right _ (List.mem_append_right _ (List.mem_append_left _ (List.mem_of_getElem? (l := tables_1_3) (i := 125) rfl))))
theorem tm_X4_140 : Cond.methodLink RX4 140 yX4_suitAll ∈ lw_tbl := List.mem_append_right _ (show _ ∈ tables_1_1 ++ (tables_1_2 ++ (tables_1_3 ++ tables_1_4)) from List.mem_append_right _ (List.mem_append_right _ (List.mem_append_left _ (List.mem_of_getElem? (l := tables_1_3) (i := 126) rfl))))
theorem ti_yX4_suitAll : Cond.instanceMethod yX4_suitAll ∈ lw_tbl := List.mem_append_right _ (show _ ∈ tables_1_1 ++ (tables_1_2 ++ (tables_1_3 ++ tables_1_4)) from List.mem_append_right _ (List.mem_append_right _ (List.mem_append_left _ (List.mem_of_getElem? (l := tables_1_3) (i := 128) rfl))))
theorem tc_yX4_suitAll : Cond.code yX4_suitAll cX4_suitAll 4 (some .boolean) ∈ lw_tbl := List.mem_append_right _ (show _ ∈ tables_1_1 ++ (tables_1_2 ++ (tables_1_3 ++ tables_1_4)) from List.mem_append_right _ (List.mem_append_right _ (List.mem_append_left _ (List.mem_of_getElem? (l := tables_1_3) (i := 129) rfl))))
theorem tm_X4_125 : Cond.methodLink RX4 125 yX4_suits ∈ lw_tbl := List.mem_append_right _ (show _ ∈ tables_1_1 ++ (tables_1_2 ++ (tables_1_3 ++ tables_1_4)) from List.mem_append_right _ (List.mem_append_right _ (List.mem_append_left _ (List.mem_of_getElem? (l := tables_1_3) (i := 130) rfl))))
theorem ti_yX4_suits : Cond.instanceMethod yX4_suits ∈ lw_tbl := List.mem_append_right _ (show _ ∈ tables_1_1 ++ (tables_1_2 ++ (tables_1_3 ++ tables_1_4)) from List.mem_append_right _ (List.mem_append_right _ (List.mem_append_left _ (List.mem_of_getElem? (l := tables_1_3) (i := 132) rfl))))
theorem tc_yX4_suits : Cond.code yX4_suits cX4_suits 5 (some .boolean) ∈ lw_tbl := List.mem_append_right _ (show _ ∈ tables_1_1 ++ (tables_1_2 ++ (tables_1_3 ++ tables_1_4)) from List.mem_append_right _ (List.mem_append_right _ (List.mem_append_left _ (List.mem_of_getElem? (l := tables_1_3) (i := 133) rfl))))
theorem tm_L_35 : Cond.methodLink RL 35 yX4_drop ∈ lw_tbl := List.mem_append_right _ (show _ ∈ tables_1_1 ++ (tables_1_2 ++ (tables_1_3 ++ tables_1_4)) from List.mem_append_right _ (List.mem_append_right _ (List.mem_append_left _ (List.mem_of_getElem? (l := tables_1_3) (i := 134) rfl))))
theorem ti_yX4_drop : Cond.instanceMethod yX4_drop ∈ lw_tbl := List.mem_append_right _ (show _ ∈ tables_1_1 ++ (tables_1_2 ++ (tables_1_3 ++ tables_1_4)) from List.mem_append_right _ (List.mem_append_right _ (List.mem_append_left _ (List.mem_of_getElem? (l := tables_1_3) (i := 135) rfl))))
theorem te_yX4_drop : Cond.selects RX4 yX4_drop yX4_drop ∈ lw_tbl := List.mem_append_right _ (show _ ∈ tables_1_1 ++ (tables_1_2 ++ (tables_1_3 ++ tables_1_4)) from List.mem_append_right _ (List.mem_append_right _ (List.mem_append_left _ (List.mem_of_getElem? (l := tables_1_3) (i := 136) rfl))))
theorem tc_yX4_drop : Cond.code yX4_drop cX4_drop 6 (some .int) ∈ lw_tbl := List.mem_append_right _ (show _ ∈ tables_1_1 ++ (tables_1_2 ++ (tables_1_3 ++ tables_1_4)) from List.mem_append_right _ (List.mem_append_right _ (List.mem_append_left _ (List.mem_of_getElem? (l := tables_1_3) (i := 137) rfl))))
theorem tm_L_40 : Cond.methodLink RL 40 yX4_spawn ∈ lw_tbl := List.mem_append_right _ (show _ ∈ tables_1_1 ++ (tables_1_2 ++ (tables_1_3 ++ tables_1_4)) from List.mem_append_right _ (List.mem_append_right _ (List.mem_append_left _ (List.mem_of_getElem? (l := tables_1_3) (i := 138) rfl))))
theorem ti_yX4_spawn : Cond.instanceMethod yX4_spawn ∈ lw_tbl := List.mem_append_right _ (show _ ∈ tables_1_1 ++ (tables_1_2 ++ (tables_1_3 ++ tables_1_4)) from List.mem_append_right _ (List.mem_append_right _ (List.mem_append_left _ (List.mem_of_getElem? (l := tables_1_3) (i := 139) rfl))))
theorem te_yX4_spawn : Cond.selects RX4 yX4_spawn yX4_spawn ∈ lw_tbl := List.mem_append_right _ (show _ ∈ tables_1_1 ++ (tables_1_2 ++ (tables_1_3 ++ tables_1_4)) from List.mem_append_right _ (List.mem_append_right _ (List.mem_append_left _ (List.mem_of_getElem? (l := tables_1_3) (i := 140) rfl))))
theorem tc_yX4_spawn : Cond.code yX4_spawn cX4_spawn 8 (some .int) ∈ lw_tbl := List.mem_append_right _ (show _ ∈ tables_1_1 ++ (tables_1_2 ++ (tables_1_3 ++ tables_1_4)) from List.mem_append_right _ (List.mem_append_right _ (List.mem_append_left _ (List.mem_of_getElem? (l := tables_1_3) (i := 141) rfl))))
theorem tm_L_44 : Cond.methodLink RL 44 yX4_exit ∈ lw_tbl := List.mem_append_right _ (show _ ∈ tables_1_1 ++ (tables_1_2 ++ (tables_1_3 ++ tables_1_4)) from List.mem_append_right _ (List.mem_append_right _ (List.mem_append_left _ (List.mem_of_getElem? (l := tables_1_3) (i := 142) rfl))))
theorem ti_yX4_exit : Cond.instanceMethod yX4_exit ∈ lw_tbl := List.mem_append_right _ (show _ ∈ tables_1_1 ++ (tables_1_2 ++ (tables_1_3 ++ tables_1_4)) from List.mem_append_right _ (List.mem_append_right _ (List.mem_append_left _ (List.mem_of_getElem? (l := tables_1_3) (i := 143) rfl))))
theorem te_yX4_exit : Cond.selects RX4 yX4_exit yX4_exit ∈ lw_tbl := List.mem_append_right _ (show _ ∈ tables_1_1 ++ (tables_1_2 ++ (tables_1_3 ++ tables_1_4)) from List.mem_append_right _ (List.mem_append_right _ (List.mem_append_left _ (List.mem_of_getElem? (l := tables_1_3) (i := 144) rfl))))
theorem tc_yX4_exit : Cond.code yX4_exit cX4_exit 4 (some .int) ∈ lw_tbl := List.mem_append_right _ (show _ ∈ tables_1_1 ++ (tables_1_2 ++ (tables_1_3 ++ tables_1_4)) from List.mem_append_right _ (List.mem_append_right _ (List.mem_append_left _ (List.mem_of_getElem? (l := tables_1_3) (i := 145) rfl))))
theorem tm_L_48 : Cond.methodLink RL 48 yX4_endpoint ∈ lw_tbl := List.mem_append_right _ (show _ ∈ tables_1_1 ++ (tables_1_2 ++ (tables_1_3 ++ tables_1_4)) from List.mem_append_right _ (List.mem_append_right _ (List.mem_append_left _ (List.mem_of_getElem? (l := tables_1_3) (i := 146) rfl))))
theorem ti_yX4_endpoint : Cond.instanceMethod yX4_endpoint ∈ lw_tbl := List.mem_append_right _ (show _ ∈ tables_1_1 ++ (tables_1_2 ++ (tables_1_3 ++ tables_1_4)) from List.mem_append_right _ (List.mem_append_right _ (List.mem_append_left _ (List.mem_of_getElem? (l := tables_1_3) (i := 147) rfl))))
theorem te_yX4_endpoint : Cond.selects RX4 yX4_endpoint yX4_endpoint ∈ lw_tbl := List.mem_append_right _ (show _ ∈ tables_1_1 ++ (tables_1_2 ++ (tables_1_3 ++ tables_1_4)) from List.mem_append_right _ (List.mem_append_right _ (List.mem_append_left _ (List.mem_of_getElem? (l := tables_1_3) (i := 148) rfl))))
theorem tc_yX4_endpoint : Cond.code yX4_endpoint cX4_endpoint 5 (some .int) ∈ lw_tbl := List.mem_append_right _ (show _ ∈ tables_1_1 ++ (tables_1_2 ++ (tables_1_3 ++ tables_1_4)) from List.mem_append_right _ (List.mem_append_right _ (List.mem_append_left _ (List.mem_of_getElem? (l := tables_1_3) (i := 149) rfl))))
theorem tm_L_52 : Cond.methodLink RL 52 yX4_close ∈ lw_tbl := List.mem_append_right _ (show _ ∈ tables_1_1 ++ (tables_1_2 ++ (tables_1_3 ++ tables_1_4)) from List.mem_append_right _ (List.mem_append_right _ (List.mem_append_left _ (List.mem_of_getElem? (l := tables_1_3) (i := 150) rfl))))
theorem ti_yX4_close : Cond.instanceMethod yX4_close ∈ lw_tbl := List.mem_append_right _ (show _ ∈ tables_1_1 ++ (tables_1_2 ++ (tables_1_3 ++ tables_1_4)) from List.mem_append_right _ (List.mem_append_right _ (List.mem_append_left _ (List.mem_of_getElem? (l := tables_1_3) (i := 151) rfl))))
theorem te_yX4_close : Cond.selects RX4 yX4_close yX4_close ∈ lw_tbl := List.mem_append_right _ (show _ ∈ tables_1_1 ++ (tables_1_2 ++ (tables_1_3 ++ tables_1_4)) from List.mem_append_right _ (List.mem_append_right _ (List.mem_append_left _ (List.mem_of_getElem? (l := tables_1_3) (i := 152) rfl))))
theorem tc_yX4_close : Cond.code yX4_close cX4_close 3 (some .int) ∈ lw_tbl := List.mem_append_right _ (show _ ∈ tables_1_1 ++ (tables_1_2 ++ (tables_1_3 ++ tables_1_4)) from List.mem_append_right _ (List.mem_append_right _ (List.mem_append_left _ (List.mem_of_getElem? (l := tables_1_3) (i := 153) rfl))))
theorem tm_X4_143 : Cond.methodLink RX4 143 yX4_isPort ∈ lw_tbl := List.mem_append_right _ (show _ ∈ tables_1_1 ++ (tables_1_2 ++ (tables_1_3 ++ tables_1_4)) from List.mem_append_right _ (List.mem_append_right _ (List.mem_append_left _ (List.mem_of_getElem? (l := tables_1_3) (i := 154) rfl))))
theorem ti_yX4_isPort : Cond.instanceMethod yX4_isPort ∈ lw_tbl := List.mem_append_right _ (show _ ∈ tables_1_1 ++ (tables_1_2 ++ (tables_1_3 ++ tables_1_4)) from List.mem_append_right _ (List.mem_append_right _ (List.mem_append_left _ (List.mem_of_getElem? (l := tables_1_3) (i := 156) rfl))))
theorem tc_yX4_isPort : Cond.code yX4_isPort cX4_isPort 2 (some .boolean) ∈ lw_tbl := List.mem_append_right _ (show _ ∈ tables_1_1 ++ (tables_1_2 ++ (tables_1_3 ++ tables_1_4)) from List.mem_append_right _ (List.mem_append_right _ (List.mem_append_left _ (List.mem_of_getElem? (l := tables_1_3) (i := 157) rfl))))
theorem tm_L_56 : Cond.methodLink RL 56 yX4_port ∈ lw_tbl := List.mem_append_right _ (show _ ∈ tables_1_1 ++ (tables_1_2 ++ (tables_1_3 ++ tables_1_4)) from List.mem_append_right _ (List.mem_append_right _ (List.mem_append_left _ (List.mem_of_getElem? (l := tables_1_3) (i := 158) rfl))))
theorem ti_yX4_port : Cond.instanceMethod yX4_port ∈ lw_tbl := List.mem_append_right _ (show _ ∈ tables_1_1 ++ (tables_1_2 ++ (tables_1_3 ++ tables_1_4)) from List.mem_append_right _ (List.mem_append_right _ (List.mem_append_left _ (List.mem_of_getElem? (l := tables_1_3) (i := 159) rfl))))
theorem te_yX4_port : Cond.selects RX4 yX4_port yX4_port ∈ lw_tbl := List.mem_append_right _ (show _ ∈ tables_1_1 ++ (tables_1_2 ++ (tables_1_3 ++ tables_1_4)) from List.mem_append_right _ (List.mem_append_right _ (List.mem_append_left _ (List.mem_of_getElem? (l := tables_1_3) (i := 160) rfl))))
theorem tc_yX4_port : Cond.code yX4_port cX4_port 3 (some .int) ∈ lw_tbl := List.mem_append_right _ (show _ ∈ tables_1_1 ++ (tables_1_2 ++ (tables_1_3 ++ tables_1_4)) from List.mem_append_right _ (List.mem_append_right _ (List.mem_append_left _ (List.mem_of_getElem? (l := tables_1_3) (i := 161) rfl))))
theorem tm_L_61 : Cond.methodLink RL 61 yX4_send ∈ lw_tbl := List.mem_append_right _ (show _ ∈ tables_1_1 ++ (tables_1_2 ++ (tables_1_3 ++ tables_1_4)) from List.mem_append_right _ (List.mem_append_right _ (List.mem_append_left _ (List.mem_of_getElem? (l := tables_1_3) (i := 162) rfl))))
theorem ti_yX4_send : Cond.instanceMethod yX4_send ∈ lw_tbl := List.mem_append_right _ (show _ ∈ tables_1_1 ++ (tables_1_2 ++ (tables_1_3 ++ tables_1_4)) from List.mem_append_right _ (List.mem_append_right _ (List.mem_append_left _ (List.mem_of_getElem? (l := tables_1_3) (i := 163) rfl))))
theorem te_yX4_send : Cond.selects RX4 yX4_send yX4_send ∈ lw_tbl := List.mem_append_right _ (show _ ∈ tables_1_1 ++ (tables_1_2 ++ (tables_1_3 ++ tables_1_4)) from List.mem_append_right _ (List.mem_append_right _ (List.mem_append_left _ (List.mem_of_getElem? (l := tables_1_3) (i := 164) rfl))))
theorem tc_yX4_send : Cond.code yX4_send cX4_send 8 (some .int) ∈ lw_tbl := List.mem_append_right _ (show _ ∈ tables_1_1 ++ (tables_1_2 ++ (tables_1_3 ++ tables_1_4)) from List.mem_append_right _ (List.mem_append_right _ (List.mem_append_left _ (List.mem_of_getElem? (l := tables_1_3) (i := 165) rfl))))
theorem tk_X4_146 : Cond.constantLong RX4 146 (39) ∈ lw_tbl := List.mem_append_right _ (show _ ∈ tables_1_1 ++ (tables_1_2 ++ (tables_1_3 ++ tables_1_4)) from List.mem_append_right _ (List.mem_append_right _ (List.mem_append_left _ (List.mem_of_getElem? (l := tables_1_3) (i := 166) rfl))))
theorem tm_X4_148 : Cond.methodLink RX4 148 yX4_flows ∈ lw_tbl := List.mem_append_right _ (show _ ∈ tables_1_1 ++ (tables_1_2 ++ (tables_1_3 ++ tables_1_4)) from List.mem_append_right _ (List.mem_append_right _ (List.mem_append_left _ (List.mem_of_getElem? (l := tables_1_3) (i := 167) rfl))))
theorem ts_yX4_flows : Cond.static yX4_flows ∈ lw_tbl := List.mem_append_right _ (show _ ∈ tables_1_1 ++ (tables_1_2 ++ (tables_1_3 ++ tables_1_4)) from List.mem_append_right _ (List.mem_append_right _ (List.mem_append_left _ (List.mem_of_getElem? (l := tables_1_3) (i := 168) rfl))))
theorem tc_yX4_flows : Cond.code yX4_flows cX4_flows 4 (some .boolean) ∈ lw_tbl := List.mem_append_right _ (show _ ∈ tables_1_1 ++ (tables_1_2 ++ (tables_1_3 ++ tables_1_4)) from List.mem_append_right _ (List.mem_append_right _ (List.mem_append_left _ (List.mem_of_getElem? (l := tables_1_3) (i := 169) rfl))))
theorem tm_L_65 : Cond.methodLink RL 65 yX4_receive ∈ lw_tbl := List.mem_append_right _ (show _ ∈ tables_1_1 ++ (tables_1_2 ++ (tables_1_3 ++ tables_1_4)) from List.mem_append_right _ (List.mem_append_right _ (List.mem_append_left _ (List.mem_of_getElem? (l := tables_1_3) (i := 170) rfl))))
theorem ti_yX4_receive : Cond.instanceMethod yX4_receive ∈ lw_tbl := List.mem_append_right _ (show _ ∈ tables_1_1 ++ (tables_1_2 ++ (tables_1_3 ++ tables_1_4)) from List.mem_append_right _ (List.mem_append_right _ (List.mem_append_left _ (List.mem_of_getElem? (l := tables_1_3) (i := 171) rfl))))
theorem te_yX4_receive : Cond.selects RX4 yX4_receive yX4_receive ∈ lw_tbl := List.mem_append_right _ (show _ ∈ tables_1_1 ++ (tables_1_2 ++ (tables_1_3 ++ tables_1_4)) from List.mem_append_right _ (List.mem_append_right _ (List.mem_append_left _ (List.mem_of_getElem? (l := tables_1_3) (i := 172) rfl))))
theorem tc_yX4_receive : Cond.code yX4_receive cX4_receive 4 (some .int) ∈ lw_tbl := List.mem_append_right _ (show _ ∈ tables_1_1 ++ (tables_1_2 ++ (tables_1_3 ++ tables_1_4)) from List.mem_append_right _ (List.mem_append_right _ (List.mem_append_left _ (List.mem_of_getElem? (l := tables_1_3) (i := 173) rfl))))
theorem tm_L_69 : Cond.methodLink RL 69 yX4_message ∈ lw_tbl := List.mem_append_right _ (show _ ∈ tables_1_1 ++ (tables_1_2 ++ (tables_1_3 ++ tables_1_4)) from List.mem_append_right _ (List.mem_append_right _ (List.mem_append_left _ (List.mem_of_getElem? (l := tables_1_3) (i := 174) rfl))))
theorem ti_yX4_message : Cond.instanceMethod yX4_message ∈ lw_tbl := List.mem_append_right _ (show _ ∈ tables_1_1 ++ (tables_1_2 ++ (tables_1_3 ++ tables_1_4)) from List.mem_append_right _ (List.mem_append_right _ (List.mem_append_left _ (List.mem_of_getElem? (l := tables_1_3) (i := 175) rfl))))
theorem te_yX4_message : Cond.selects RX4 yX4_message yX4_message ∈ lw_tbl := List.mem_append_right _ (show _ ∈ tables_1_1 ++ (tables_1_2 ++ (tables_1_3 ++ tables_1_4)) from List.mem_append_right _ (List.mem_append_right _ (List.mem_append_left _ (List.mem_of_getElem? (l := tables_1_3) (i := 176) rfl))))
theorem tc_yX4_message : Cond.code yX4_message cX4_message 3 (some .int) ∈ lw_tbl := List.mem_append_right _ (show _ ∈ tables_1_1 ++ (tables_1_2 ++ (tables_1_3 ++ tables_1_4)) from List.mem_append_right _ (List.mem_append_right _ (List.mem_append_left _ (List.mem_of_getElem? (l := tables_1_3) (i := 177) rfl))))
theorem tm_L_73 : Cond.methodLink RL 73 yX4_container ∈ lw_tbl := List.mem_append_right _ (show _ ∈ tables_1_1 ++ (tables_1_2 ++ (tables_1_3 ++ tables_1_4)) from List.mem_append_right _ (List.mem_append_right _ (List.mem_append_left _ (List.mem_of_getElem? (l := tables_1_3) (i := 178) rfl))))
theorem ti_yX4_container : Cond.instanceMethod yX4_container ∈ lw_tbl := List.mem_append_right _ (show _ ∈ tables_1_1 ++ (tables_1_2 ++ (tables_1_3 ++ tables_1_4)) from List.mem_append_right _ (List.mem_append_right _ (List.mem_append_left _ (List.mem_of_getElem? (l := tables_1_3) (i := 179) rfl))))
theorem te_yX4_container : Cond.selects RX4 yX4_container yX4_container ∈ lw_tbl := List.mem_append_right _ (show _ ∈ tables_1_1 ++ (tables_1_2 ++ (tables_1_3 ++ tables_1_4)) from List.mem_append_right _ (List.mem_append_right _ (List.mem_append_left _ (List.mem_of_getElem? (l := tables_1_3) (i := 180) rfl))))
theorem tc_yX4_container : Cond.code yX4_container cX4_container 7 (some .int) ∈ lw_tbl := List.mem_append_right _ (show _ ∈ tables_1_1 ++ (tables_1_2 ++ (tables_1_3 ++ tables_1_4)) from List.mem_append_right _ (List.mem_append_right _ (List.mem_append_left _ (List.mem_of_getElem? (l := tables_1_3) (i := 181) rfl))))
theorem tm_X4_181 : Cond.methodLink RX4 181 yX4_isRoomy ∈ lw_tbl := List.mem_append_right _ (show _ ∈ tables_1_1 ++ (tables_1_2 ++ (tables_1_3 ++ tables_1_4)) from List.mem_append_right _ (List.mem_append_right _ (List.mem_append_left _ (List.mem_of_getElem? (l := tables_1_3) (i := 182) rfl))))
theorem ti_yX4_isRoomy : Cond.instanceMethod yX4_isRoomy ∈ lw_tbl := List.mem_append_right _ (show _ ∈ tables_1_1 ++ (tables_1_2 ++ (tables_1_3 ++ tables_1_4)) from List.mem_append_right _ (List.mem_append_right _ (List.mem_append_left _ (List.mem_of_getElem? (l := tables_1_3) (i := 184) rfl))))
theorem tc_yX4_isRoomy : Cond.code yX4_isRoomy cX4_isRoomy 2 (some .boolean) ∈ lw_tbl := List.mem_append_right _ (show _ ∈ tables_1_1 ++ (tables_1_2 ++ (tables_1_3 ++ tables_1_4)) from List.mem_append_right _ (List.mem_append_right _ (List.mem_append_left _ (List.mem_of_getElem? (l := tables_1_3) (i := 185) rfl))))
theorem tm_X4_172 : Cond.methodLink RX4 172 yX4_isObject ∈ lw_tbl := List.mem_append_right _ (show _ ∈ tables_1_1 ++ (tables_1_2 ++ (tables_1_3 ++ tables_1_4)) from List.mem_append_right _ (List.mem_append_right _ (List.mem_append_left _ (List.mem_of_getElem? (l := tables_1_3) (i := 186) rfl))))
theorem ti_yX4_isObject : Cond.instanceMethod yX4_isObject ∈ lw_tbl := List.mem_append_right _ (show _ ∈ tables_1_1 ++ (tables_1_2 ++ (tables_1_3 ++ tables_1_4)) from List.mem_append_right _ (List.mem_append_right _ (List.mem_append_left _ (List.mem_of_getElem? (l := tables_1_3) (i := 188) rfl))))
theorem tc_yX4_isObject : Cond.code yX4_isObject cX4_isObject 2 (some .boolean) ∈ lw_tbl := List.mem_append_right _ (show _ ∈ tables_1_1 ++ (tables_1_2 ++ (tables_1_3 ++ tables_1_4)) from List.mem_append_right _ (List.mem_append_right _ (List.mem_append_left _ (List.mem_of_getElem? (l := tables_1_3) (i := 189) rfl))))
theorem tk_X4_184 : Cond.constantLong RX4 184 (200) ∈ lw_tbl := List.mem_append_right _ (show _ ∈ tables_1_1 ++ (tables_1_2 ++ (tables_1_3 ++ tables_1_4)) from List.mem_append_right _ (List.mem_append_right _ (List.mem_append_left _ (List.mem_of_getElem? (l := tables_1_3) (i := 190) rfl))))
theorem tk_X4_186 : Cond.constantLong RX4 186 (50) ∈ lw_tbl := List.mem_append_right _ (show _ ∈ tables_1_1 ++ (tables_1_2 ++ (tables_1_3 ++ tables_1_4)) from List.mem_append_right _ (List.mem_append_right _ (List.mem_append_left _ (List.mem_of_getElem? (l := tables_1_3) (i := 191) rfl))))
theorem tm_X4_188 : Cond.methodLink RX4 188 yX4_mayMake ∈ lw_tbl := List.mem_append_right _ (show _ ∈ tables_1_1 ++ (tables_1_2 ++ (tables_1_3 ++ tables_1_4)) from List.mem_append_right _ (List.mem_append_right _ (List.mem_append_left _ (List.mem_of_getElem? (l := tables_1_3) (i := 192) rfl))))
theorem ti_yX4_mayMake : Cond.instanceMethod yX4_mayMake ∈ lw_tbl := List.mem_append_right _ (show _ ∈ tables_1_1 ++ (tables_1_2 ++ (tables_1_3 ++ tables_1_4)) from List.mem_append_right _ (List.mem_append_right _ (List.mem_append_left _ (List.mem_of_getElem? (l := tables_1_3) (i := 194) rfl))))
theorem tc_yX4_mayMake : Cond.code yX4_mayMake cX4_mayMake 5 (some .boolean) ∈ lw_tbl := List.mem_append_right _ (show _ ∈ tables_1_1 ++ (tables_1_2 ++ (tables_1_3 ++ tables_1_4)) from List.mem_append_right _ (List.mem_append_right _ (List.mem_append_left _ (List.mem_of_getElem? (l := tables_1_3) (i := 195) rfl))))
theorem tm_X4_165 : Cond.methodLink RX4 165 yX4_canRead ∈ lw_tbl := List.mem_append_right _ (show _ ∈ tables_1_1 ++ (tables_1_2 ++ (tables_1_3 ++ tables_1_4)) from List.mem_append_right _ (List.mem_append_right _ (List.mem_append_left _ (List.mem_of_getElem? (l := tables_1_3) (i := 196) rfl))))
theorem ti_yX4_canRead : Cond.instanceMethod yX4_canRead ∈ lw_tbl := List.mem_append_right _ (show _ ∈ tables_1_1 ++ (tables_1_2 ++ (tables_1_3 ++ tables_1_4)) from List.mem_append_right _ (List.mem_append_right _ (List.mem_append_left _ (List.mem_of_getElem? (l := tables_1_3) (i := 198) rfl))))
theorem tc_yX4_canRead : Cond.code yX4_canRead cX4_canRead 3 (some .boolean) ∈ lw_tbl := List.mem_append_right _ (show _ ∈ tables_1_1 ++ (tables_1_2 ++ (tables_1_3 ++ tables_1_4)) from List.mem_append_right _ (List.mem_append_right _ (List.mem_append_left _ (List.mem_of_getElem? (l := tables_1_3) (i := 199) rfl))))
theorem tm_X4_169 : Cond.methodLink RX4 169 yX4_canWrite ∈ lw_tbl := List.mem_append_right _ (show _ ∈ tables_1_1 ++ (tables_1_2 ++ (tables_1_3 ++ tables_1_4)) from List.mem_append_right _ (List.mem_append_right _ (List.mem_append_left _ (List.mem_of_getElem? (l := tables_1_3) (i := 200) rfl))))
theorem ti_yX4_canWrite : Cond.instanceMethod yX4_canWrite ∈ lw_tbl := List.mem_append_right _ (show _ ∈ tables_1_1 ++ (tables_1_2 ++ (tables_1_3 ++ tables_1_4)) from List.mem_append_right _ (List.mem_append_right _ (List.mem_append_left _ (List.mem_of_getElem? (l := tables_1_3) (i := 202) rfl))))
theorem tc_yX4_canWrite : Cond.code yX4_canWrite cX4_canWrite 3 (some .boolean) ∈ lw_tbl := List.mem_append_right _ (show _ ∈ tables_1_1 ++ (tables_1_2 ++ (tables_1_3 ++ tables_1_4)) from List.mem_append_right _ (List.mem_append_right _ (List.mem_append_left _ (List.mem_of_getElem? (l := tables_1_3) (i := 203) rfl))))
theorem tm_X4_191 : Cond.methodLink RX4 191 yX4_blocksLeft ∈ lw_tbl := List.mem_append_right _ (show _ ∈ tables_1_1 ++ (tables_1_2 ++ (tables_1_3 ++ tables_1_4)) from List.mem_append_right _ (List.mem_append_right _ (List.mem_append_left _ (List.mem_of_getElem? (l := tables_1_3) (i := 204) rfl))))
theorem ti_yX4_blocksLeft : Cond.instanceMethod yX4_blocksLeft ∈ lw_tbl := List.mem_append_right _ (show _ ∈ tables_1_1 ++ (tables_1_2 ++ (tables_1_3 ++ tables_1_4)) from List.mem_append_right _ (List.mem_append_right _ (List.mem_append_left _ (List.mem_of_getElem? (l := tables_1_3) (i := 206) rfl))))
theorem tc_yX4_blocksLeft : Cond.code yX4_blocksLeft cX4_blocksLeft 4 (some .int) ∈ lw_tbl := List.mem_append_right _ (show _ ∈ tables_1_1 ++ (tables_1_2 ++ (tables_1_3 ++ tables_1_4)) from List.mem_append_right _ (List.mem_append_right _ (List.mem_append_left _ (List.mem_of_getElem? (l := tables_1_3) (i := 207) rfl))))
theorem tm_X4_155 : Cond.methodLink RX4 155 yX4_blocksOf ∈ lw_tbl := List.mem_append_right _ (show _ ∈ tables_1_1 ++ (tables_1_2 ++ (tables_1_3 ++ tables_1_4)) from List.mem_append_right _ (List.mem_append_right _ (List.mem_append_left _ (List.mem_of_getElem? (l := tables_1_3) (i := 208) rfl))))
theorem ts_yX4_blocksOf : Cond.static yX4_blocksOf ∈ lw_tbl := List.mem_append_right _ (show _ ∈ tables_1_1 ++ (tables_1_2 ++ (tables_1_3 ++ tables_1_4)) from List.mem_append_right _ (List.mem_append_right _ (List.mem_append_left _ (List.mem_of_getElem? (l := tables_1_3) (i := 209) rfl))))
theorem tc_yX4_blocksOf : Cond.code yX4_blocksOf cX4_blocksOf 1 (some .int) ∈ lw_tbl := List.mem_append_right _ (show _ ∈ tables_1_1 ++ (tables_1_2 ++ (tables_1_3 ++ tables_1_4)) from List.mem_append_right _ (List.mem_append_right _ (List.mem_append_left _ (List.mem_of_getElem? (l := tables_1_3) (i := 210) rfl))))
theorem tm_X4_194 : Cond.methodLink RX4 194 yX4_objectsLeft ∈ lw_tbl := List.mem_append_right _ (show _ ∈ tables_1_1 ++ (tables_1_2 ++ (tables_1_3 ++ tables_1_4)) from List.mem_append_right _ (List.mem_append_right _ (List.mem_append_left _ (List.mem_of_getElem? (l := tables_1_3) (i := 211) rfl))))
theorem ti_yX4_objectsLeft : Cond.instanceMethod yX4_objectsLeft ∈ lw_tbl := List.mem_append_right _ (show _ ∈ tables_1_1 ++ (tables_1_2 ++ (tables_1_3 ++ tables_1_4)) from List.mem_append_right _ (List.mem_append_right _ (List.mem_append_left _ (List.mem_of_getElem? (l := tables_1_3) (i := 213) rfl))))
theorem tc_yX4_objectsLeft : Cond.code yX4_objectsLeft cX4_objectsLeft 4 (some .int) ∈ lw_tbl := List.mem_append_right _ (show _ ∈ tables_1_1 ++ (tables_1_2 ++ (tables_1_3 ++ tables_1_4)) from List.mem_append_right _ (List.mem_append_right _ (List.mem_append_left _ (List.mem_of_getElem? (l := tables_1_3) (i := 214) rfl))))
theorem tm_X4_197 : Cond.methodLink RX4 197 yX4_make ∈ lw_tbl := List.mem_append_right _ (show _ ∈ tables_1_1 ++ (tables_1_2 ++ (tables_1_3 ++ tables_1_4)) from List.mem_append_right _ (List.mem_append_right _ (List.mem_append_left _ (List.mem_of_getElem? (l := tables_1_3) (i := 215) rfl))))
theorem ti_yX4_make : Cond.instanceMethod yX4_make ∈ lw_tbl := List.mem_append_right _ (show _ ∈ tables_1_1 ++ (tables_1_2 ++ (tables_1_3 ++ tables_1_4)) from List.mem_append_right _ (List.mem_append_right _ (List.mem_append_left _ (List.mem_of_getElem? (l := tables_1_3) (i := 217) rfl))))
theorem tc_yX4_make : Cond.code yX4_make cX4_make 8 (some .int) ∈ lw_tbl := List.mem_append_right _ (show _ ∈ tables_1_1 ++ (tables_1_2 ++ (tables_1_3 ++ tables_1_4)) from List.mem_append_right _ (List.mem_append_right _ (List.mem_append_left _ (List.mem_of_getElem? (l := tables_1_3) (i := 218) rfl))))
theorem tm_X4_175 : Cond.methodLink RX4 175 yX4_goes ∈ lw_tbl := List.mem_append_right _ (show _ ∈ tables_1_1 ++ (tables_1_2 ++ (tables_1_3 ++ tables_1_4)) from List.mem_append_right _ (List.mem_append_right _ (List.mem_append_left _ (List.mem_of_getElem? (l := tables_1_3) (i := 219) rfl))))
theorem ti_yX4_goes : Cond.instanceMethod yX4_goes ∈ lw_tbl := List.mem_append_right _ (show _ ∈ tables_1_1 ++ (tables_1_2 ++ (tables_1_3 ++ tables_1_4)) from List.mem_append_right _ (List.mem_append_right _ (List.mem_append_left _ (List.mem_of_getElem? (l := tables_1_3) (i := 221) rfl))))
theorem tc_yX4_goes : Cond.code yX4_goes cX4_goes 3 (some .boolean) ∈ lw_tbl := List.mem_append_right _ (show _ ∈ tables_1_1 ++ (tables_1_2 ++ (tables_1_3 ++ tables_1_4)) from List.mem_append_right _ (List.mem_append_right _ (List.mem_append_left _ (List.mem_of_getElem? (l := tables_1_3) (i := 222) rfl))))
theorem tm_X4_178 : Cond.methodLink RX4 178 yX4_answer ∈ lw_tbl := List.mem_append_right _ (show _ ∈ tables_1_1 ++ (tables_1_2 ++ (tables_1_3 ++ tables_1_4)) from List.mem_append_right _ (List.mem_append_right _ (List.mem_append_left _ (List.mem_of_getElem? (l := tables_1_3) (i := 223) rfl))))
theorem ti_yX4_answer : Cond.instanceMethod yX4_answer ∈ lw_tbl := List.mem_append_right _ (show _ ∈ tables_1_1 ++ (tables_1_2 ++ (tables_1_3 ++ tables_1_4)) from List.mem_append_right _ (List.mem_append_right _ (List.mem_append_left _ (List.mem_of_getElem? (l := tables_1_3) (i := 225) rfl))))
theorem tc_yX4_answer : Cond.code yX4_answer cX4_answer 2 (some .int) ∈ lw_tbl := List.mem_append_right _ (show _ ∈ tables_1_1 ++ (tables_1_2 ++ (tables_1_3 ++ tables_1_4)) from List.mem_append_right _ (List.mem_append_right _ (List.mem_append_left _ (List.mem_of_getElem? (l := tables_1_3) (i := 226) rfl))))
theorem tk_X4_164 : Cond.constant RX4 164 (-1000005) ∈ lw_tbl := List.mem_append_right _ (show _ ∈ tables_1_1 ++ (tables_1_2 ++ (tables_1_3 ++ tables_1_4)) from List.mem_append_right _ (List.mem_append_right _ (List.mem_append_left _ (List.mem_of_getElem? (l := tables_1_3) (i := 227) rfl))))
theorem tm_L_78 : Cond.methodLink RL 78 yX4_file ∈ lw_tbl := List.mem_append_right _ (show _ ∈ tables_1_1 ++ (tables_1_2 ++ (tables_1_3 ++ tables_1_4)) from List.mem_append_right _ (List.mem_append_right _ (List.mem_append_left _ (List.mem_of_getElem? (l := tables_1_3) (i := 228) rfl))))
theorem ti_yX4_file : Cond.instanceMethod yX4_file ∈ lw_tbl := List.mem_append_right _ (show _ ∈ tables_1_1 ++ (tables_1_2 ++ (tables_1_3 ++ tables_1_4)) from List.mem_append_right _ (List.mem_append_right _ (List.mem_append_left _ (List.mem_of_getElem? (l := tables_1_3) (i := 229) rfl))))
theorem te_yX4_file : Cond.selects RX4 yX4_file yX4_file ∈ lw_tbl := List.mem_append_right _ (show _ ∈ tables_1_1 ++ (tables_1_2 ++ (tables_1_3 ++ tables_1_4)) from List.mem_append_right _ (List.mem_append_right _ (List.mem_append_left _ (List.mem_of_getElem? (l := tables_1_3) (i := 230) rfl))))
theorem tc_yX4_file : Cond.code yX4_file cX4_file 5 (some .int) ∈ lw_tbl := List.mem_append_right _ (show _ ∈ tables_1_1 ++ (tables_1_2 ++ (tables_1_3 ++ tables_1_4)) from List.mem_append_right _ (List.mem_append_right _ (List.mem_append_left _ (List.mem_of_getElem? (l := tables_1_3) (i := 231) rfl))))
theorem tm_L_82 : Cond.methodLink RL 82 yX4_remove ∈ lw_tbl := List.mem_append_right _ (show _ ∈ tables_1_1 ++ (tables_1_2 ++ (tables_1_3 ++ tables_1_4)) from List.mem_append_right _ (List.mem_append_right _ (List.mem_append_left _ (List.mem_of_getElem? (l := tables_1_3) (i := 232) rfl))))
theorem ti_yX4_remove : Cond.instanceMethod yX4_remove ∈ lw_tbl := List.mem_append_right _ (show _ ∈ tables_1_1 ++ (tables_1_2 ++ (tables_1_3 ++ tables_1_4)) from List.mem_append_right _ (List.mem_append_right _ (List.mem_append_left _ (List.mem_of_getElem? (l := tables_1_3) (i := 233) rfl))))
theorem te_yX4_remove : Cond.selects RX4 yX4_remove yX4_remove ∈ lw_tbl := List.mem_append_right _ (show _ ∈ tables_1_1 ++ (tables_1_2 ++ (tables_1_3 ++ tables_1_4)) from List.mem_append_right _ (List.mem_append_right _ (List.mem_append_left _ (List.mem_of_getElem? (l := tables_1_3) (i := 234) rfl))))
theorem tc_yX4_remove : Cond.code yX4_remove cX4_remove 5 (some .int) ∈ lw_tbl := List.mem_append_right _ (show _ ∈ tables_1_1 ++ (tables_1_2 ++ (tables_1_3 ++ tables_1_4)) from List.mem_append_right _ (List.mem_append_right _ (List.mem_append_left _ (List.mem_of_getElem? (l := tables_1_3) (i := 235) rfl))))
theorem tm_L_86 : Cond.methodLink RL 86 yX4_write ∈ lw_tbl := List.mem_append_right _ (show _ ∈ tables_1_1 ++ (tables_1_2 ++ (tables_1_3 ++ tables_1_4)) from List.mem_append_right _ (List.mem_append_right _ (List.mem_append_left _ (List.mem_of_getElem? (l := tables_1_3) (i := 236) rfl))))
theorem ti_yX4_write : Cond.instanceMethod yX4_write ∈ lw_tbl := List.mem_append_right _ (show _ ∈ tables_1_1 ++ (tables_1_2 ++ (tables_1_3 ++ tables_1_4)) from List.mem_append_right _ (List.mem_append_right _ (List.mem_append_left _ (List.mem_of_getElem? (l := tables_1_3) (i := 237) rfl))))
theorem te_yX4_write : Cond.selects RX4 yX4_write yX4_write ∈ lw_tbl := List.mem_append_right _ (show _ ∈ tables_1_1 ++ (tables_1_2 ++ (tables_1_3 ++ tables_1_4)) from List.mem_append_right _ (List.mem_append_right _ (List.mem_append_left _ (List.mem_of_getElem? (l := tables_1_3) (i := 238) rfl))))
theorem tc_yX4_write : Cond.code yX4_write cX4_write 6 (some .int) ∈ lw_tbl := List.mem_append_right _ (show _ ∈ tables_1_1 ++ (tables_1_2 ++ (tables_1_3 ++ tables_1_4)) from List.mem_append_right _ (List.mem_append_right _ (List.mem_append_left _ (List.mem_of_getElem? (l := tables_1_3) (i := 239) rfl))))
theorem tm_X4_201 : Cond.methodLink RX4 201 yX4_isFile ∈ lw_tbl := List.mem_append_right _ (show _ ∈ tables_1_1 ++ (tables_1_2 ++ (tables_1_3 ++ tables_1_4)) from List.mem_append_right _ (List.mem_append_right _ (List.mem_append_right _ ((List.mem_of_getElem? (l := tables_1_4) (i := 0) rfl)))))
theorem ti_yX4_isFile : Cond.instanceMethod yX4_isFile ∈ lw_tbl := List.mem_append_right _ (show _ ∈ tables_1_1 ++ (tables_1_2 ++ (tables_1_3 ++ tables_1_4)) from List.mem_append_right _ (List.mem_append_right _ (List.mem_append_right _ ((List.mem_of_getElem? (l := tables_1_4) (i := 2) rfl)))))
theorem tc_yX4_isFile : Cond.code yX4_isFile cX4_isFile 2 (some .boolean) ∈ lw_tbl := List.mem_append_right _ (show _ ∈ tables_1_1 ++ (tables_1_2 ++ (tables_1_3 ++ tables_1_4)) from List.mem_append_right _ (List.mem_append_right _ (List.mem_append_right _ ((List.mem_of_getElem? (l := tables_1_4) (i := 3) rfl)))))
theorem tk_X4_204 : Cond.constantLong RX4 204 (31) ∈ lw_tbl := List.mem_append_right _ (show _ ∈ tables_1_1 ++ (tables_1_2 ++ (tables_1_3 ++ tables_1_4)) from List.mem_append_right _ (List.mem_append_right _ (List.mem_append_right _ ((List.mem_of_getElem? (l := tables_1_4) (i := 4) rfl)))))
theorem tm_L_90 : Cond.methodLink RL 90 yX4_append ∈ lw_tbl := List.mem_append_right _ (show _ ∈ tables_1_1 ++ (tables_1_2 ++ (tables_1_3 ++ tables_1_4)) from List.mem_append_right _ (List.mem_append_right _ (List.mem_append_right _ ((List.mem_of_getElem? (l := tables_1_4) (i := 5) rfl)))))
theorem ti_yX4_append : Cond.instanceMethod yX4_append ∈ lw_tbl := List.mem_append_right _ (show _ ∈ tables_1_1 ++ (tables_1_2 ++ (tables_1_3 ++ tables_1_4)) from List.mem_append_right _ (List.mem_append_right _ (List.mem_append_right _ ((List.mem_of_getElem? (l := tables_1_4) (i := 6) rfl)))))
theorem te_yX4_append : Cond.selects RX4 yX4_append yX4_append ∈ lw_tbl := List.mem_append_right _ (show _ ∈ tables_1_1 ++ (tables_1_2 ++ (tables_1_3 ++ tables_1_4)) from List.mem_append_right _ (List.mem_append_right _ (List.mem_append_right _ ((List.mem_of_getElem? (l := tables_1_4) (i := 7) rfl)))))
theorem tc_yX4_append : Cond.code yX4_append cX4_append 8 (some .int) ∈ lw_tbl := List.mem_append_right _ (show _ ∈ tables_1_1 ++ (tables_1_2 ++ (tables_1_3 ++ tables_1_4)) from List.mem_append_right _ (List.mem_append_right _ (List.mem_append_right _ ((List.mem_of_getElem? (l := tables_1_4) (i := 8) rfl)))))
theorem tk_X4_206 : Cond.constantLong RX4 206 (8) ∈ lw_tbl := List.mem_append_right _ (show _ ∈ tables_1_1 ++ (tables_1_2 ++ (tables_1_3 ++ tables_1_4)) from List.mem_append_right _ (List.mem_append_right _ (List.mem_append_right _ ((List.mem_of_getElem? (l := tables_1_4) (i := 9) rfl)))))
theorem tm_L_94 : Cond.methodLink RL 94 yX4_read ∈ lw_tbl := List.mem_append_right _ (show _ ∈ tables_1_1 ++ (tables_1_2 ++ (tables_1_3 ++ tables_1_4)) from List.mem_append_right _ (List.mem_append_right _ (List.mem_append_right _ ((List.mem_of_getElem? (l := tables_1_4) (i := 10) rfl)))))
theorem ti_yX4_read : Cond.instanceMethod yX4_read ∈ lw_tbl := List.mem_append_right _ (show _ ∈ tables_1_1 ++ (tables_1_2 ++ (tables_1_3 ++ tables_1_4)) from List.mem_append_right _ (List.mem_append_right _ (List.mem_append_right _ ((List.mem_of_getElem? (l := tables_1_4) (i := 11) rfl)))))
theorem te_yX4_read : Cond.selects RX4 yX4_read yX4_read ∈ lw_tbl := List.mem_append_right _ (show _ ∈ tables_1_1 ++ (tables_1_2 ++ (tables_1_3 ++ tables_1_4)) from List.mem_append_right _ (List.mem_append_right _ (List.mem_append_right _ ((List.mem_of_getElem? (l := tables_1_4) (i := 12) rfl)))))
theorem tc_yX4_read : Cond.code yX4_read cX4_read 4 (some .int) ∈ lw_tbl := List.mem_append_right _ (show _ ∈ tables_1_1 ++ (tables_1_2 ++ (tables_1_3 ++ tables_1_4)) from List.mem_append_right _ (List.mem_append_right _ (List.mem_append_right _ ((List.mem_of_getElem? (l := tables_1_4) (i := 13) rfl)))))
theorem tm_L_98 : Cond.methodLink RL 98 yX4_object ∈ lw_tbl := List.mem_append_right _ (show _ ∈ tables_1_1 ++ (tables_1_2 ++ (tables_1_3 ++ tables_1_4)) from List.mem_append_right _ (List.mem_append_right _ (List.mem_append_right _ ((List.mem_of_getElem? (l := tables_1_4) (i := 14) rfl)))))
theorem ti_yX4_object : Cond.instanceMethod yX4_object ∈ lw_tbl := List.mem_append_right _ (show _ ∈ tables_1_1 ++ (tables_1_2 ++ (tables_1_3 ++ tables_1_4)) from List.mem_append_right _ (List.mem_append_right _ (List.mem_append_right _ ((List.mem_of_getElem? (l := tables_1_4) (i := 15) rfl)))))
theorem te_yX4_object : Cond.selects RX4 yX4_object yX4_object ∈ lw_tbl := List.mem_append_right _ (show _ ∈ tables_1_1 ++ (tables_1_2 ++ (tables_1_3 ++ tables_1_4)) from List.mem_append_right _ (List.mem_append_right _ (List.mem_append_right _ ((List.mem_of_getElem? (l := tables_1_4) (i := 16) rfl)))))
theorem tc_yX4_object : Cond.code yX4_object cX4_object 4 (some .int) ∈ lw_tbl := List.mem_append_right _ (show _ ∈ tables_1_1 ++ (tables_1_2 ++ (tables_1_3 ++ tables_1_4)) from List.mem_append_right _ (List.mem_append_right _ (List.mem_append_right _ ((List.mem_of_getElem? (l := tables_1_4) (i := 17) rfl)))))
theorem tk_X4_208 : Cond.constantLong RX4 208 (6) ∈ lw_tbl := List.mem_append_right _ (show _ ∈ tables_1_1 ++ (tables_1_2 ++ (tables_1_3 ++ tables_1_4)) from List.mem_append_right _ (List.mem_append_right _ (List.mem_append_right _ ((List.mem_of_getElem? (l := tables_1_4) (i := 18) rfl)))))
theorem tm_L_102 : Cond.methodLink RL 102 yX4_list ∈ lw_tbl := List.mem_append_right _ (show _ ∈ tables_1_1 ++ (tables_1_2 ++ (tables_1_3 ++ tables_1_4)) from List.mem_append_right _ (List.mem_append_right _ (List.mem_append_right _ ((List.mem_of_getElem? (l := tables_1_4) (i := 19) rfl)))))
theorem ti_yX4_list : Cond.instanceMethod yX4_list ∈ lw_tbl := List.mem_append_right _ (show _ ∈ tables_1_1 ++ (tables_1_2 ++ (tables_1_3 ++ tables_1_4)) from List.mem_append_right _ (List.mem_append_right _ (List.mem_append_right _ ((List.mem_of_getElem? (l := tables_1_4) (i := 20) rfl)))))
theorem te_yX4_list : Cond.selects RX4 yX4_list yX4_list ∈ lw_tbl := List.mem_append_right _ (show _ ∈ tables_1_1 ++ (tables_1_2 ++ (tables_1_3 ++ tables_1_4)) from List.mem_append_right _ (List.mem_append_right _ (List.mem_append_right _ ((List.mem_of_getElem? (l := tables_1_4) (i := 21) rfl)))))
theorem tc_yX4_list : Cond.code yX4_list cX4_list 6 (some .int) ∈ lw_tbl := List.mem_append_right _ (show _ ∈ tables_1_1 ++ (tables_1_2 ++ (tables_1_3 ++ tables_1_4)) from List.mem_append_right _ (List.mem_append_right _ (List.mem_append_right _ ((List.mem_of_getElem? (l := tables_1_4) (i := 22) rfl)))))
theorem tm_L_106 : Cond.methodLink RL 106 yX4_crash ∈ lw_tbl := List.mem_append_right _ (show _ ∈ tables_1_1 ++ (tables_1_2 ++ (tables_1_3 ++ tables_1_4)) from List.mem_append_right _ (List.mem_append_right _ (List.mem_append_right _ ((List.mem_of_getElem? (l := tables_1_4) (i := 23) rfl)))))
theorem ti_yX4_crash : Cond.instanceMethod yX4_crash ∈ lw_tbl := List.mem_append_right _ (show _ ∈ tables_1_1 ++ (tables_1_2 ++ (tables_1_3 ++ tables_1_4)) from List.mem_append_right _ (List.mem_append_right _ (List.mem_append_right _ ((List.mem_of_getElem? (l := tables_1_4) (i := 24) rfl)))))
theorem te_yX4_crash : Cond.selects RX4 yX4_crash yX4_crash ∈ lw_tbl := List.mem_append_right _ (show _ ∈ tables_1_1 ++ (tables_1_2 ++ (tables_1_3 ++ tables_1_4)) from List.mem_append_right _ (List.mem_append_right _ (List.mem_append_right _ ((List.mem_of_getElem? (l := tables_1_4) (i := 25) rfl)))))
theorem tc_yX4_crash : Cond.code yX4_crash cX4_crash 2 (some .int) ∈ lw_tbl := List.mem_append_right _ (show _ ∈ tables_1_1 ++ (tables_1_2 ++ (tables_1_3 ++ tables_1_4)) from List.mem_append_right _ (List.mem_append_right _ (List.mem_append_right _ ((List.mem_of_getElem? (l := tables_1_4) (i := 26) rfl)))))
theorem tk_X4_210 : Cond.constantLong RX4 210 (-1) ∈ lw_tbl := List.mem_append_right _ (show _ ∈ tables_1_1 ++ (tables_1_2 ++ (tables_1_3 ++ tables_1_4)) from List.mem_append_right _ (List.mem_append_right _ (List.mem_append_right _ ((List.mem_of_getElem? (l := tables_1_4) (i := 27) rfl)))))
theorem tk_X4_212 : Cond.constantLong RX4 212 (100) ∈ lw_tbl := List.mem_append_right _ (show _ ∈ tables_1_1 ++ (tables_1_2 ++ (tables_1_3 ++ tables_1_4)) from List.mem_append_right _ (List.mem_append_right _ (List.mem_append_right _ ((List.mem_of_getElem? (l := tables_1_4) (i := 28) rfl)))))
theorem tm_L_110 : Cond.methodLink RL 110 yX4_count ∈ lw_tbl := List.mem_append_right _ (show _ ∈ tables_1_1 ++ (tables_1_2 ++ (tables_1_3 ++ tables_1_4)) from List.mem_append_right _ (List.mem_append_right _ (List.mem_append_right _ ((List.mem_of_getElem? (l := tables_1_4) (i := 29) rfl)))))
theorem ti_yX4_count : Cond.instanceMethod yX4_count ∈ lw_tbl := List.mem_append_right _ (show _ ∈ tables_1_1 ++ (tables_1_2 ++ (tables_1_3 ++ tables_1_4)) from List.mem_append_right _ (List.mem_append_right _ (List.mem_append_right _ ((List.mem_of_getElem? (l := tables_1_4) (i := 30) rfl)))))
theorem te_yX4_count : Cond.selects RX4 yX4_count yX4_count ∈ lw_tbl := List.mem_append_right _ (show _ ∈ tables_1_1 ++ (tables_1_2 ++ (tables_1_3 ++ tables_1_4)) from List.mem_append_right _ (List.mem_append_right _ (List.mem_append_right _ ((List.mem_of_getElem? (l := tables_1_4) (i := 31) rfl)))))
theorem tc_yX4_count : Cond.code yX4_count cX4_count 4 (some .int) ∈ lw_tbl := List.mem_append_right _ (show _ ∈ tables_1_1 ++ (tables_1_2 ++ (tables_1_3 ++ tables_1_4)) from List.mem_append_right _ (List.mem_append_right _ (List.mem_append_right _ ((List.mem_of_getElem? (l := tables_1_4) (i := 32) rfl)))))
theorem te_yX2_begin : Cond.selects RX2 yX2_begin yX2_begin ∈ lw_tbl := List.mem_append_left _ (List.mem_of_getElem? (l := k2_sels lw_privs) (i := 0) rfl)
theorem te_yX1_begin : Cond.selects RX1 yX1_begin yX1_begin ∈ lw_tbl := List.mem_append_left _ (List.mem_of_getElem? (l := k2_sels lw_privs) (i := 1) rfl)
theorem te_yX3_processAt : Cond.selects RX3 yX3_processAt yX3_processAt ∈ lw_tbl := List.mem_append_left _ (List.mem_of_getElem? (l := k2_sels lw_privs) (i := 2) rfl)
theorem te_yX3_openEndpointsOf : Cond.selects RX3 yX3_openEndpointsOf yX3_openEndpointsOf ∈ lw_tbl := List.mem_append_left _ (List.mem_of_getElem? (l := k2_sels lw_privs) (i := 3) rfl)
theorem te_yX3_both : Cond.selects RX3 yX3_both yX3_both ∈ lw_tbl := List.mem_append_left _ (List.mem_of_getElem? (l := k2_sels lw_privs) (i := 4) rfl)
theorem te_yX3_isSet : Cond.selects RX3 yX3_isSet yX3_isSet ∈ lw_tbl := List.mem_append_left _ (List.mem_of_getElem? (l := k2_sels lw_privs) (i := 5) rfl)
theorem te_yX3_isSafe : Cond.selects RX3 yX3_isSafe yX3_isSafe ∈ lw_tbl := List.mem_append_left _ (List.mem_of_getElem? (l := k2_sels lw_privs) (i := 6) rfl)
theorem te_yX3_endpointsFit : Cond.selects RX3 yX3_endpointsFit yX3_endpointsFit ∈ lw_tbl := List.mem_append_left _ (List.mem_of_getElem? (l := k2_sels lw_privs) (i := 7) rfl)
theorem te_yX3_closeEndpointsOf : Cond.selects RX3 yX3_closeEndpointsOf yX3_closeEndpointsOf ∈ lw_tbl := List.mem_append_left _ (List.mem_of_getElem? (l := k2_sels lw_privs) (i := 8) rfl)
theorem te_yX0_begin : Cond.selects RX0 yX0_begin yX0_begin ∈ lw_tbl := List.mem_append_left _ (List.mem_of_getElem? (l := k2_sels lw_privs) (i := 9) rfl)
theorem te_yX3_endpointAt : Cond.selects RX3 yX3_endpointAt yX3_endpointAt ∈ lw_tbl := List.mem_append_left _ (List.mem_of_getElem? (l := k2_sels lw_privs) (i := 10) rfl)
theorem te_yX0_hasRoom : Cond.selects RX0 yX0_hasRoom yX0_hasRoom ∈ lw_tbl := List.mem_append_left _ (List.mem_of_getElem? (l := k2_sels lw_privs) (i := 11) rfl)
theorem te_yX0_put : Cond.selects RX0 yX0_put yX0_put ∈ lw_tbl := List.mem_append_left _ (List.mem_of_getElem? (l := k2_sels lw_privs) (i := 12) rfl)
theorem te_yX2_take : Cond.selects RX2 yX2_take yX2_take ∈ lw_tbl := List.mem_append_left _ (List.mem_of_getElem? (l := k2_sels lw_privs) (i := 13) rfl)
theorem te_yX0_moveUp : Cond.selects RX0 yX0_moveUp yX0_moveUp ∈ lw_tbl := List.mem_append_left _ (List.mem_of_getElem? (l := k2_sels lw_privs) (i := 14) rfl)
theorem te_yX3_containerAt : Cond.selects RX3 yX3_containerAt yX3_containerAt ∈ lw_tbl := List.mem_append_left _ (List.mem_of_getElem? (l := k2_sels lw_privs) (i := 15) rfl)
theorem te_yX3_objectAt : Cond.selects RX3 yX3_objectAt yX3_objectAt ∈ lw_tbl := List.mem_append_left _ (List.mem_of_getElem? (l := k2_sels lw_privs) (i := 16) rfl)
theorem te_yX3_blocksLeft : Cond.selects RX3 yX3_blocksLeft yX3_blocksLeft ∈ lw_tbl := List.mem_append_left _ (List.mem_of_getElem? (l := k2_sels lw_privs) (i := 17) rfl)
theorem te_yX3_standsIn : Cond.selects RX3 yX3_standsIn yX3_standsIn ∈ lw_tbl := List.mem_append_left _ (List.mem_of_getElem? (l := k2_sels lw_privs) (i := 18) rfl)
theorem te_yX1_blocksTaken : Cond.selects RX1 yX1_blocksTaken yX1_blocksTaken ∈ lw_tbl := List.mem_append_left _ (List.mem_of_getElem? (l := k2_sels lw_privs) (i := 19) rfl)
theorem te_yX3_placesLeft : Cond.selects RX3 yX3_placesLeft yX3_placesLeft ∈ lw_tbl := List.mem_append_left _ (List.mem_of_getElem? (l := k2_sels lw_privs) (i := 20) rfl)
theorem te_yX3_make : Cond.selects RX3 yX3_make yX3_make ∈ lw_tbl := List.mem_append_left _ (List.mem_of_getElem? (l := k2_sels lw_privs) (i := 21) rfl)
theorem te_yX3_enter : Cond.selects RX3 yX3_enter yX3_enter ∈ lw_tbl := List.mem_append_left _ (List.mem_of_getElem? (l := k2_sels lw_privs) (i := 22) rfl)
theorem te_yX3_outcome : Cond.selects RX3 yX3_outcome yX3_outcome ∈ lw_tbl := List.mem_append_left _ (List.mem_of_getElem? (l := k2_sels lw_privs) (i := 23) rfl)
theorem te_yX3_startAnew : Cond.selects RX3 yX3_startAnew yX3_startAnew ∈ lw_tbl := List.mem_append_left _ (List.mem_of_getElem? (l := k2_sels lw_privs) (i := 24) rfl)
theorem te_yX3_sizeOfTree : Cond.selects RX3 yX3_sizeOfTree yX3_sizeOfTree ∈ lw_tbl := List.mem_append_left _ (List.mem_of_getElem? (l := k2_sels lw_privs) (i := 25) rfl)
theorem te_yX3_isPartOf : Cond.selects RX3 yX3_isPartOf yX3_isPartOf ∈ lw_tbl := List.mem_append_left _ (List.mem_of_getElem? (l := k2_sels lw_privs) (i := 26) rfl)
theorem te_yX3_removeTree : Cond.selects RX3 yX3_removeTree yX3_removeTree ∈ lw_tbl := List.mem_append_left _ (List.mem_of_getElem? (l := k2_sels lw_privs) (i := 27) rfl)
theorem te_yX3_fileAt : Cond.selects RX3 yX3_fileAt yX3_fileAt ∈ lw_tbl := List.mem_append_left _ (List.mem_of_getElem? (l := k2_sels lw_privs) (i := 28) rfl)
theorem te_yX3_writeRun : Cond.selects RX3 yX3_writeRun yX3_writeRun ∈ lw_tbl := List.mem_append_left _ (List.mem_of_getElem? (l := k2_sels lw_privs) (i := 29) rfl)
theorem te_yX3_hasRoomUpTo : Cond.selects RX3 yX3_hasRoomUpTo yX3_hasRoomUpTo ∈ lw_tbl := List.mem_append_left _ (List.mem_of_getElem? (l := k2_sels lw_privs) (i := 30) rfl)
theorem te_yX1_put : Cond.selects RX1 yX1_put yX1_put ∈ lw_tbl := List.mem_append_left _ (List.mem_of_getElem? (l := k2_sels lw_privs) (i := 31) rfl)
theorem te_yX3_livingProcesses : Cond.selects RX3 yX3_livingProcesses yX3_livingProcesses ∈ lw_tbl := List.mem_append_left _ (List.mem_of_getElem? (l := k2_sels lw_privs) (i := 32) rfl)
theorem te_yX3_openEndpoints : Cond.selects RX3 yX3_openEndpoints yX3_openEndpoints ∈ lw_tbl := List.mem_append_left _ (List.mem_of_getElem? (l := k2_sels lw_privs) (i := 33) rfl)
theorem te_yX3_objectsThere : Cond.selects RX3 yX3_objectsThere yX3_objectsThere ∈ lw_tbl := List.mem_append_left _ (List.mem_of_getElem? (l := k2_sels lw_privs) (i := 34) rfl)
theorem te_yX4_begin : Cond.selects RX4 yX4_begin yX4_begin ∈ lw_tbl := List.mem_append_left _ (List.mem_of_getElem? (l := k2_sels lw_privs) (i := 35) rfl)
theorem te_yX4_isProcess : Cond.selects RX4 yX4_isProcess yX4_isProcess ∈ lw_tbl := List.mem_append_left _ (List.mem_of_getElem? (l := k2_sels lw_privs) (i := 36) rfl)
theorem te_yX4_openOf : Cond.selects RX4 yX4_openOf yX4_openOf ∈ lw_tbl := List.mem_append_left _ (List.mem_of_getElem? (l := k2_sels lw_privs) (i := 37) rfl)
theorem te_yX4_bothOf : Cond.selects RX4 yX4_bothOf yX4_bothOf ∈ lw_tbl := List.mem_append_left _ (List.mem_of_getElem? (l := k2_sels lw_privs) (i := 38) rfl)
theorem te_yX4_isSet : Cond.selects RX4 yX4_isSet yX4_isSet ∈ lw_tbl := List.mem_append_left _ (List.mem_of_getElem? (l := k2_sels lw_privs) (i := 39) rfl)
theorem te_yX4_isSafe : Cond.selects RX4 yX4_isSafe yX4_isSafe ∈ lw_tbl := List.mem_append_left _ (List.mem_of_getElem? (l := k2_sels lw_privs) (i := 40) rfl)
theorem te_yX4_putLabel : Cond.selects RX4 yX4_putLabel yX4_putLabel ∈ lw_tbl := List.mem_append_left _ (List.mem_of_getElem? (l := k2_sels lw_privs) (i := 41) rfl)
theorem te_yX4_suitAll : Cond.selects RX4 yX4_suitAll yX4_suitAll ∈ lw_tbl := List.mem_append_left _ (List.mem_of_getElem? (l := k2_sels lw_privs) (i := 42) rfl)
theorem te_yX4_suits : Cond.selects RX4 yX4_suits yX4_suits ∈ lw_tbl := List.mem_append_left _ (List.mem_of_getElem? (l := k2_sels lw_privs) (i := 43) rfl)
theorem te_yX4_isPort : Cond.selects RX4 yX4_isPort yX4_isPort ∈ lw_tbl := List.mem_append_left _ (List.mem_of_getElem? (l := k2_sels lw_privs) (i := 44) rfl)
theorem te_yX4_isRoomy : Cond.selects RX4 yX4_isRoomy yX4_isRoomy ∈ lw_tbl := List.mem_append_left _ (List.mem_of_getElem? (l := k2_sels lw_privs) (i := 45) rfl)
theorem te_yX4_isObject : Cond.selects RX4 yX4_isObject yX4_isObject ∈ lw_tbl := List.mem_append_left _ (List.mem_of_getElem? (l := k2_sels lw_privs) (i := 46) rfl)
theorem te_yX4_mayMake : Cond.selects RX4 yX4_mayMake yX4_mayMake ∈ lw_tbl := List.mem_append_left _ (List.mem_of_getElem? (l := k2_sels lw_privs) (i := 47) rfl)
theorem te_yX4_canRead : Cond.selects RX4 yX4_canRead yX4_canRead ∈ lw_tbl := List.mem_append_left _ (List.mem_of_getElem? (l := k2_sels lw_privs) (i := 48) rfl)
theorem te_yX4_canWrite : Cond.selects RX4 yX4_canWrite yX4_canWrite ∈ lw_tbl := List.mem_append_left _ (List.mem_of_getElem? (l := k2_sels lw_privs) (i := 49) rfl)
theorem te_yX4_blocksLeft : Cond.selects RX4 yX4_blocksLeft yX4_blocksLeft ∈ lw_tbl := List.mem_append_left _ (List.mem_of_getElem? (l := k2_sels lw_privs) (i := 50) rfl)
theorem te_yX4_objectsLeft : Cond.selects RX4 yX4_objectsLeft yX4_objectsLeft ∈ lw_tbl := List.mem_append_left _ (List.mem_of_getElem? (l := k2_sels lw_privs) (i := 51) rfl)
theorem te_yX4_make : Cond.selects RX4 yX4_make yX4_make ∈ lw_tbl := List.mem_append_left _ (List.mem_of_getElem? (l := k2_sels lw_privs) (i := 52) rfl)
theorem te_yX4_goes : Cond.selects RX4 yX4_goes yX4_goes ∈ lw_tbl := List.mem_append_left _ (List.mem_of_getElem? (l := k2_sels lw_privs) (i := 53) rfl)
theorem te_yX4_answer : Cond.selects RX4 yX4_answer yX4_answer ∈ lw_tbl := List.mem_append_left _ (List.mem_of_getElem? (l := k2_sels lw_privs) (i := 54) rfl)
theorem te_yX4_isFile : Cond.selects RX4 yX4_isFile yX4_isFile ∈ lw_tbl := List.mem_append_left _ (List.mem_of_getElem? (l := k2_sels lw_privs) (i := 55) rfl)
