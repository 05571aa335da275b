def RX0 : String := "HelpDesk$Agent"
def TX0 : u_T := fun k => match k with
  | 0 => ("HelpDesk$Agent", "number", "I", true)
  | 1 => ("HelpDesk$Agent", "days", "I", true)
  | 2 => ("HelpDesk$Agent", "begin", "I", true)
  | 3 => ("HelpDesk$Agent", "end", "I", true)
  | 4 => ("HelpDesk$Agent", "skills", "I", false)
  | 5 => ("HelpDesk$Agent", "held", "LHelpDesk$Ticket;", false)
  | 6 => ("HelpDesk$Agent", "minutesWorked", "I", false)
  | _ => ("HelpDesk$Agent", "timesSolved", "I", false)
def tyX0 : Nat → FieldType := fun k => match k with
  | 0 => .int
  | 1 => .int
  | 2 => .int
  | 3 => .int
  | 4 => .int
  | 5 => .object "HelpDesk$Ticket"
  | 6 => .int
  | _ => .int
abbrev wsX00 : List Cond := u_ws RX0 TX0 8
theorem nmX0 : ∀ a, a < 8 → ∀ b, b < 8 → a ≠ b → (TX0 a).2.1 ≠ (TX0 b).2.1 := by decide +kernel
theorem tyX0_ok : ∀ k, k < 8 → parseFieldDescriptor (TX0 k).2.2.1 = some (tyX0 k) := by decide +kernel
abbrev cX0_init : ByteArray := prog_2_method_1_code
def yX0_init : MethodName := ⟨RX0, "<init>", "(IIIII)V"⟩
abbrev cX0_hasSkill : ByteArray := prog_2_method_2_code
def yX0_hasSkill : MethodName := ⟨RX0, "hasSkill", "(I)Z"⟩
abbrev cX0_isThere : ByteArray := prog_2_method_3_code
def yX0_isThere : MethodName := ⟨RX0, "isThere", "(I)Z"⟩
def RX1 : String := "HelpDesk$Hours"
def TX1 : u_T := fun k => match k with
  | 0 => ("HelpDesk$Hours", "opening", "I", false)
  | _ => ("HelpDesk$Hours", "closing", "I", false)
def tyX1 : Nat → FieldType := fun k => match k with
  | 0 => .int
  | _ => .int
abbrev wsX10 : List Cond := u_ws RX1 TX1 2
theorem nmX1 : ∀ a, a < 2 → ∀ b, b < 2 → a ≠ b → (TX1 a).2.1 ≠ (TX1 b).2.1 := by decide +kernel
theorem tyX1_ok : ∀ k, k < 2 → parseFieldDescriptor (TX1 k).2.2.1 = some (tyX1 k) := by decide +kernel
abbrev cX1_init : ByteArray := prog_3_method_1_code
def yX1_init : MethodName := ⟨RX1, "<init>", "()V"⟩
abbrev cX1_isService : ByteArray := prog_3_method_2_code
def yX1_isService : MethodName := ⟨RX1, "isService", "(I)Z"⟩
abbrev cX1_minutesBetween : ByteArray := prog_3_method_3_code
def yX1_minutesBetween : MethodName := ⟨RX1, "minutesBetween", "(II)I"⟩
abbrev cX1_minutesOfDay : ByteArray := prog_3_method_5_code
def yX1_minutesOfDay : MethodName := ⟨RX1, "minutesOfDay", "(III)I"⟩
def RX2 : String := "HelpDesk$Ticket"
def TX2 : u_T := fun k => match k with
  | 0 => ("HelpDesk$Ticket", "number", "I", true)
  | 1 => ("HelpDesk$Ticket", "skill", "I", true)
  | 2 => ("HelpDesk$Ticket", "priority", "I", false)
  | 3 => ("HelpDesk$Ticket", "effort", "I", false)
  | 4 => ("HelpDesk$Ticket", "state", "I", false)
  | 5 => ("HelpDesk$Ticket", "age", "I", false)
  | 6 => ("HelpDesk$Ticket", "done", "I", false)
  | 7 => ("HelpDesk$Ticket", "answerAge", "I", false)
  | 8 => ("HelpDesk$Ticket", "timesReopened", "I", false)
  | 9 => ("HelpDesk$Ticket", "pausedAt", "I", false)
  | 10 => ("HelpDesk$Ticket", "solvedAt", "I", false)
  | 11 => ("HelpDesk$Ticket", "customerSet", "I", false)
  | 12 => ("HelpDesk$Ticket", "holder", "LHelpDesk$Agent;", false)
  | 13 => ("HelpDesk$Ticket", "latestHolder", "LHelpDesk$Agent;", false)
  | _ => ("HelpDesk$Ticket", "mergedInto", "LHelpDesk$Ticket;", false)
def tyX2 : Nat → FieldType := fun k => match k with
  | 0 => .int
  | 1 => .int
  | 2 => .int
  | 3 => .int
  | 4 => .int
  | 5 => .int
  | 6 => .int
  | 7 => .int
  | 8 => .int
  | 9 => .int
  | 10 => .int
  | 11 => .int
  | 12 => .object "HelpDesk$Agent"
  | 13 => .object "HelpDesk$Agent"
  | _ => .object "HelpDesk$Ticket"
abbrev wsX20 : List Cond := u_ws RX2 TX2 15
theorem nmX2 : ∀ a, a < 15 → ∀ b, b < 15 → a ≠ b → (TX2 a).2.1 ≠ (TX2 b).2.1 := by decide +kernel
theorem tyX2_ok : ∀ k, k < 15 → parseFieldDescriptor (TX2 k).2.2.1 = some (tyX2 k) := by decide +kernel
abbrev cX2_init : ByteArray := prog_4_method_1_code
def yX2_init : MethodName := ⟨RX2, "<init>", "(IIIII)V"⟩
abbrev cX2_isOpen : ByteArray := prog_4_method_2_code
def yX2_isOpen : MethodName := ⟨RX2, "isOpen", "()Z"⟩
def RX3 : String := "HelpDesk"
def TX3 : u_T := fun k => match k with
  | 0 => ("HelpDesk", "hours", "LHelpDesk$Hours;", true)
  | 1 => ("HelpDesk", "answerTargets", "[I", true)
  | 2 => ("HelpDesk", "solutionTargets", "[I", true)
  | 3 => ("HelpDesk", "agents", "Ljava/util/ArrayList;", true)
  | 4 => ("HelpDesk", "tickets", "Ljava/util/ArrayList;", true)
  | _ => ("HelpDesk", "minute", "I", false)
def tyX3 : Nat → FieldType := fun k => match k with
  | 0 => .object "HelpDesk$Hours"
  | 1 => .array .int
  | 2 => .array .int
  | 3 => .object "java/util/ArrayList"
  | 4 => .object "java/util/ArrayList"
  | _ => .int
abbrev wsX30 : List Cond := u_ws RX3 TX3 6
theorem nmX3 : ∀ a, a < 6 → ∀ b, b < 6 → a ≠ b → (TX3 a).2.1 ≠ (TX3 b).2.1 := by decide +kernel
theorem tyX3_ok : ∀ k, k < 6 → parseFieldDescriptor (TX3 k).2.2.1 = some (tyX3 k) := by decide +kernel
abbrev cX3_init : ByteArray := prog_1_method_1_code
def yX3_init : MethodName := ⟨RX3, "<init>", "()V"⟩
abbrev cX3_setHours : ByteArray := prog_1_method_2_code
def yX3_setHours : MethodName := ⟨RX3, "setHours", "(II)Z"⟩
abbrev cX3_setTargets : ByteArray := prog_1_method_3_code
def yX3_setTargets : MethodName := ⟨RX3, "setTargets", "(III)I"⟩
abbrev cX3_now : ByteArray := prog_1_method_4_code
def yX3_now : MethodName := ⟨RX3, "now", "()I"⟩
abbrev cX3_service : ByteArray := prog_1_method_5_code
def yX3_service : MethodName := ⟨RX3, "service", "(II)I"⟩
abbrev cX3_addAgent : ByteArray := prog_1_method_6_code
def yX3_addAgent : MethodName := ⟨RX3, "addAgent", "(IIII)I"⟩
abbrev cX3_agent : ByteArray := prog_1_method_8_code
def yX3_agent : MethodName := ⟨RX3, "agent", "(II)I"⟩
abbrev cX3_open : ByteArray := prog_1_method_10_code
def yX3_open : MethodName := ⟨RX3, "open", "(IIII)I"⟩
abbrev cX3_pause : ByteArray := prog_1_method_12_code
def yX3_pause : MethodName := ⟨RX3, "pause", "(I)I"⟩
abbrev cX3_resume : ByteArray := prog_1_method_13_code
def yX3_resume : MethodName := ⟨RX3, "resume", "(I)I"⟩
abbrev cX3_merge : ByteArray := prog_1_method_14_code
def yX3_merge : MethodName := ⟨RX3, "merge", "(II)I"⟩
abbrev cX3_reopen : ByteArray := prog_1_method_15_code
def yX3_reopen : MethodName := ⟨RX3, "reopen", "(II)I"⟩
abbrev cX3_ticket : ByteArray := prog_1_method_17_code
def yX3_ticket : MethodName := ⟨RX3, "ticket", "(II)I"⟩
abbrev cX3_pass : ByteArray := prog_1_method_21_code
def yX3_pass : MethodName := ⟨RX3, "pass", "(I)I"⟩
abbrev cX3_all : ByteArray := prog_1_method_22_code
def yX3_all : MethodName := ⟨RX3, "all", "(I)I"⟩
abbrev cX3_passMinute : ByteArray := prog_1_method_27_code
def yX3_passMinute : MethodName := ⟨RX3, "passMinute", "()I"⟩
abbrev cX3_sendHomeAgents : ByteArray := prog_1_method_28_code
def yX3_sendHomeAgents : MethodName := ⟨RX3, "sendHomeAgents", "()V"⟩
abbrev cX3_giveOutTickets : ByteArray := prog_1_method_29_code
def yX3_giveOutTickets : MethodName := ⟨RX3, "giveOutTickets", "()V"⟩
abbrev cX3_ageTickets : ByteArray := prog_1_method_30_code
def yX3_ageTickets : MethodName := ⟨RX3, "ageTickets", "()V"⟩
abbrev cX3_work : ByteArray := prog_1_method_31_code
def yX3_work : MethodName := ⟨RX3, "work", "()I"⟩
abbrev cX3_solve : ByteArray := prog_1_method_32_code
def yX3_solve : MethodName := ⟨RX3, "solve", "(LHelpDesk$Ticket;LHelpDesk$Agent;)V"⟩
abbrev cX3_give : ByteArray := prog_1_method_33_code
def yX3_give : MethodName := ⟨RX3, "give", "(LHelpDesk$Ticket;LHelpDesk$Agent;)V"⟩
abbrev cX3_handBack : ByteArray := prog_1_method_34_code
def yX3_handBack : MethodName := ⟨RX3, "handBack", "(LHelpDesk$Ticket;)V"⟩
abbrev cX3_takeFromHolder : ByteArray := prog_1_method_35_code
def yX3_takeFromHolder : MethodName := ⟨RX3, "takeFromHolder", "(LHelpDesk$Ticket;)V"⟩
abbrev cX3_firstByLiking : ByteArray := prog_1_method_36_code
def yX3_firstByLiking : MethodName := ⟨RX3, "firstByLiking", "(LHelpDesk$Agent;)LHelpDesk$Ticket;"⟩
abbrev cX3_isLikedMore : ByteArray := prog_1_method_37_code
def yX3_isLikedMore : MethodName := ⟨RX3, "isLikedMore", "(LHelpDesk$Agent;LHelpDesk$Ticket;LHelpDesk$Ticket;)Z"⟩
abbrev cX3_slackOf : ByteArray := prog_1_method_38_code
def yX3_slackOf : MethodName := ⟨RX3, "slackOf", "(LHelpDesk$Ticket;)I"⟩
abbrev cX3_toldOfAgent : ByteArray := prog_1_method_41_code
def yX3_toldOfAgent : MethodName := ⟨RX3, "toldOfAgent", "(LHelpDesk$Agent;I)I"⟩
abbrev cX3_toldOfTicket : ByteArray := prog_1_method_42_code
def yX3_toldOfTicket : MethodName := ⟨RX3, "toldOfTicket", "(LHelpDesk$Ticket;I)I"⟩
abbrev cX3_numberOfAgent : ByteArray := prog_1_method_43_code
def yX3_numberOfAgent : MethodName := ⟨RX3, "numberOfAgent", "(LHelpDesk$Agent;)I"⟩
abbrev cX3_numberOfTicket : ByteArray := prog_1_method_44_code
def yX3_numberOfTicket : MethodName := ⟨RX3, "numberOfTicket", "(LHelpDesk$Ticket;)I"⟩
abbrev cX3_agentAt : ByteArray := prog_1_method_49_code
def yX3_agentAt : MethodName := ⟨RX3, "agentAt", "(I)LHelpDesk$Agent;"⟩
abbrev cX3_ticketAt : ByteArray := prog_1_method_50_code
def yX3_ticketAt : MethodName := ⟨RX3, "ticketAt", "(I)LHelpDesk$Ticket;"⟩
abbrev cX3_isPriority : ByteArray := prog_1_method_51_code
def yX3_isPriority : MethodName := ⟨RX3, "isPriority", "(I)Z"⟩
abbrev cX3_isSetOfSkills : ByteArray := prog_1_method_52_code
def yX3_isSetOfSkills : MethodName := ⟨RX3, "isSetOfSkills", "(I)Z"⟩
abbrev cX3_isSpanOfDay : ByteArray := prog_1_method_53_code
def yX3_isSpanOfDay : MethodName := ⟨RX3, "isSpanOfDay", "(II)Z"⟩
abbrev cX3_dayOfWeek : ByteArray := prog_1_method_54_code
def yX3_dayOfWeek : MethodName := ⟨RX3, "dayOfWeek", "(I)I"⟩
def RX4 : String := "HelpDeskModel"
def TX4 : u_T := fun k => match k with
  | _ => ("", "", "", false)
def tyX4 : Nat → FieldType := fun k => match k with
  | _ => .int
abbrev wsX40 : List Cond := u_ws RX4 TX4 0
theorem nmX4 : ∀ a, a < 0 → ∀ b, b < 0 → a ≠ b → (TX4 a).2.1 ≠ (TX4 b).2.1 := by decide +kernel
theorem tyX4_ok : ∀ k, k < 0 → parseFieldDescriptor (TX4 k).2.2.1 = some (tyX4 k) := by decide +kernel
def RJx145de : String := "java/io/Serializable"
def TJx145de : u_T := fun k => match k with
  | _ => ("", "", "", false)
def tyJx145de : Nat → FieldType := fun k => match k with
  | _ => .int
abbrev wsJx145de0 : List Cond := u_ws RJx145de TJx145de 0
theorem nmJx145de : ∀ a, a < 0 → ∀ b, b < 0 → a ≠ b → (TJx145de a).2.1 ≠ (TJx145de b).2.1 := by decide +kernel
theorem tyJx145de_ok : ∀ k, k < 0 → parseFieldDescriptor (TJx145de k).2.2.1 = some (tyJx145de k) := by decide +kernel
def RJx8e188 : String := "java/lang/Cloneable"
def TJx8e188 : u_T := fun k => match k with
  | _ => ("", "", "", false)
def tyJx8e188 : Nat → FieldType := fun k => match k with
  | _ => .int
abbrev wsJx8e1880 : List Cond := u_ws RJx8e188 TJx8e188 0
theorem nmJx8e188 : ∀ a, a < 0 → ∀ b, b < 0 → a ≠ b → (TJx8e188 a).2.1 ≠ (TJx8e188 b).2.1 := by decide +kernel
theorem tyJx8e188_ok : ∀ k, k < 0 → parseFieldDescriptor (TJx8e188 k).2.2.1 = some (tyJx8e188 k) := by decide +kernel
def RJxab1ab : String := "java/lang/Iterable"
def TJxab1ab : u_T := fun k => match k with
  | _ => ("", "", "", false)
def tyJxab1ab : Nat → FieldType := fun k => match k with
  | _ => .int
abbrev wsJxab1ab0 : List Cond := u_ws RJxab1ab TJxab1ab 0
theorem nmJxab1ab : ∀ a, a < 0 → ∀ b, b < 0 → a ≠ b → (TJxab1ab a).2.1 ≠ (TJxab1ab b).2.1 := by decide +kernel
theorem tyJxab1ab_ok : ∀ k, k < 0 → parseFieldDescriptor (TJxab1ab k).2.2.1 = some (tyJxab1ab k) := by decide +kernel
def RJ9 : String := "java/lang/Math"
def TJ9 : u_T := fun k => match k with
  | _ => ("", "", "", false)
def tyJ9 : Nat → FieldType := fun k => match k with
  | _ => .int
abbrev wsJ90 : List Cond := u_ws RJ9 TJ9 0
theorem nmJ9 : ∀ a, a < 0 → ∀ b, b < 0 → a ≠ b → (TJ9 a).2.1 ≠ (TJ9 b).2.1 := by decide +kernel
theorem tyJ9_ok : ∀ k, k < 0 → parseFieldDescriptor (TJ9 k).2.2.1 = some (tyJ9 k) := by decide +kernel
abbrev cJ9_max_7cf53 : ByteArray := prog_14_method_65_code
def yJ9_max_7cf53 : MethodName := ⟨RJ9, "max", "(II)I"⟩
abbrev cJ9_min_7cf53 : ByteArray := prog_14_method_69_code
def yJ9_min_7cf53 : MethodName := ⟨RJ9, "min", "(II)I"⟩
def RJ0 : String := "java/lang/String"
def TJ0 : u_T := fun k => match k with
  | _ => ("", "", "", false)
def tyJ0 : Nat → FieldType := fun k => match k with
  | _ => .int
abbrev wsJ00 : List Cond := u_ws RJ0 TJ0 0
theorem nmJ0 : ∀ a, a < 0 → ∀ b, b < 0 → a ≠ b → (TJ0 a).2.1 ≠ (TJ0 b).2.1 := by decide +kernel
theorem tyJ0_ok : ∀ k, k < 0 → parseFieldDescriptor (TJ0 k).2.2.1 = some (tyJ0 k) := by decide +kernel
def RJ10 : String := "java/lang/System"
def TJ10 : u_T := fun k => match k with
  | _ => ("", "", "", false)
def tyJ10 : Nat → FieldType := fun k => match k with
  | _ => .int
abbrev wsJ100 : List Cond := u_ws RJ10 TJ10 0
theorem nmJ10 : ∀ a, a < 0 → ∀ b, b < 0 → a ≠ b → (TJ10 a).2.1 ≠ (TJ10 b).2.1 := by decide +kernel
theorem tyJ10_ok : ∀ k, k < 0 → parseFieldDescriptor (TJ10 k).2.2.1 = some (tyJ10 k) := by decide +kernel
def RJxa1e45 : String := "java/util/AbstractCollection"
def TJxa1e45 : u_T := fun k => match k with
  | _ => ("", "", "", false)
def tyJxa1e45 : Nat → FieldType := fun k => match k with
  | _ => .int
abbrev wsJxa1e450 : List Cond := u_ws RJxa1e45 TJxa1e45 0
theorem nmJxa1e45 : ∀ a, a < 0 → ∀ b, b < 0 → a ≠ b → (TJxa1e45 a).2.1 ≠ (TJxa1e45 b).2.1 := by decide +kernel
theorem tyJxa1e45_ok : ∀ k, k < 0 → parseFieldDescriptor (TJxa1e45 k).2.2.1 = some (tyJxa1e45 k) := by decide +kernel
abbrev cJxa1e45_init_da8c8 : ByteArray := prog_19_method_1_code
def yJxa1e45_init_da8c8 : MethodName := ⟨RJxa1e45, "<init>", "()V"⟩
def RJxc12de : String := "java/util/AbstractList"
def TJxc12de : u_T := fun k => match k with
  | _ => ("", "", "", false)
def tyJxc12de : Nat → FieldType := fun k => match k with
  | _ => .int
abbrev wsJxc12de0 : List Cond := u_ws RJxc12de TJxc12de 0
theorem nmJxc12de : ∀ a, a < 0 → ∀ b, b < 0 → a ≠ b → (TJxc12de a).2.1 ≠ (TJxc12de b).2.1 := by decide +kernel
theorem tyJxc12de_ok : ∀ k, k < 0 → parseFieldDescriptor (TJxc12de k).2.2.1 = some (tyJxc12de k) := by decide +kernel
abbrev cJxc12de_init_da8c8 : ByteArray := prog_20_method_1_code
def yJxc12de_init_da8c8 : MethodName := ⟨RJxc12de, "<init>", "()V"⟩
def RJx4a65c : String := "java/util/ArrayList"
def TJx4a65c : u_T := fun k => match k with
  | 0 => ("java/util/AbstractList", "modCount", "I", false)
  | 1 => ("java/util/ArrayList", "elementData", "[Ljava/lang/Object;", false)
  | _ => ("java/util/ArrayList", "size", "I", false)
def tyJx4a65c : Nat → FieldType := fun k => match k with
  | 0 => .int
  | 1 => .array (.object "java/lang/Object")
  | _ => .int
abbrev wsJx4a65c0 : List Cond := u_ws RJx4a65c TJx4a65c 3
theorem nmJx4a65c : ∀ a, a < 3 → ∀ b, b < 3 → a ≠ b → (TJx4a65c a).2.1 ≠ (TJx4a65c b).2.1 := by decide +kernel
theorem tyJx4a65c_ok : ∀ k, k < 3 → parseFieldDescriptor (TJx4a65c k).2.2.1 = some (tyJx4a65c k) := by decide +kernel
abbrev cJx4a65c_init_da8c8 : ByteArray := prog_21_method_2_code
def yJx4a65c_init_da8c8 : MethodName := ⟨RJx4a65c, "<init>", "()V"⟩
abbrev cJx4a65c_grow_92f84 : ByteArray := prog_21_method_6_code
def yJx4a65c_grow_92f84 : MethodName := ⟨RJx4a65c, "grow", "(I)[Ljava/lang/Object;"⟩
abbrev cJx4a65c_grow_d5877 : ByteArray := prog_21_method_7_code
def yJx4a65c_grow_d5877 : MethodName := ⟨RJx4a65c, "grow", "()[Ljava/lang/Object;"⟩
abbrev cJx4a65c_size_8abf5 : ByteArray := prog_21_method_8_code
def yJx4a65c_size_8abf5 : MethodName := ⟨RJx4a65c, "size", "()I"⟩
abbrev cJx4a65c_elementData_915e3 : ByteArray := prog_21_method_18_code
def yJx4a65c_elementData_915e3 : MethodName := ⟨RJx4a65c, "elementData", "(I)Ljava/lang/Object;"⟩
abbrev cJx4a65c_get_915e3 : ByteArray := prog_21_method_20_code
def yJx4a65c_get_915e3 : MethodName := ⟨RJx4a65c, "get", "(I)Ljava/lang/Object;"⟩
abbrev cJx4a65c_add_72be8 : ByteArray := prog_21_method_24_code
def yJx4a65c_add_72be8 : MethodName := ⟨RJx4a65c, "add", "(Ljava/lang/Object;[Ljava/lang/Object;I)V"⟩
abbrev cJx4a65c_add_9ea2d : ByteArray := prog_21_method_25_code
def yJx4a65c_add_9ea2d : MethodName := ⟨RJx4a65c, "add", "(Ljava/lang/Object;)Z"⟩
def RJ7 : String := "java/util/Arrays"
def TJ7 : u_T := fun k => match k with
  | _ => ("", "", "", false)
def tyJ7 : Nat → FieldType := fun k => match k with
  | _ => .int
abbrev wsJ70 : List Cond := u_ws RJ7 TJ7 0
theorem nmJ7 : ∀ a, a < 0 → ∀ b, b < 0 → a ≠ b → (TJ7 a).2.1 ≠ (TJ7 b).2.1 := by decide +kernel
theorem tyJ7_ok : ∀ k, k < 0 → parseFieldDescriptor (TJ7 k).2.2.1 = some (tyJ7 k) := by decide +kernel
abbrev cJ7_copyOf_1904c : ByteArray := prog_22_method_119_code
def yJ7_copyOf_1904c : MethodName := ⟨RJ7, "copyOf", "([Ljava/lang/Object;I)[Ljava/lang/Object;"⟩
abbrev cJ7_copyOf_6403c : ByteArray := prog_22_method_120_code
def yJ7_copyOf_6403c : MethodName := ⟨RJ7, "copyOf", "([Ljava/lang/Object;ILjava/lang/Class;)[Ljava/lang/Object;"⟩
def RJx5ef63 : String := "java/util/Collection"
def TJx5ef63 : u_T := fun k => match k with
  | _ => ("", "", "", false)
def tyJx5ef63 : Nat → FieldType := fun k => match k with
  | _ => .int
abbrev wsJx5ef630 : List Cond := u_ws RJx5ef63 TJx5ef63 0
theorem nmJx5ef63 : ∀ a, a < 0 → ∀ b, b < 0 → a ≠ b → (TJx5ef63 a).2.1 ≠ (TJx5ef63 b).2.1 := by decide +kernel
theorem tyJx5ef63_ok : ∀ k, k < 0 → parseFieldDescriptor (TJx5ef63 k).2.2.1 = some (tyJx5ef63 k) := by decide +kernel
def RJxbd725 : String := "java/util/List"
def TJxbd725 : u_T := fun k => match k with
  | _ => ("", "", "", false)
def tyJxbd725 : Nat → FieldType := fun k => match k with
  | _ => .int
abbrev wsJxbd7250 : List Cond := u_ws RJxbd725 TJxbd725 0
theorem nmJxbd725 : ∀ a, a < 0 → ∀ b, b < 0 → a ≠ b → (TJxbd725 a).2.1 ≠ (TJxbd725 b).2.1 := by decide +kernel
theorem tyJxbd725_ok : ∀ k, k < 0 → parseFieldDescriptor (TJxbd725 k).2.2.1 = some (tyJxbd725 k) := by decide +kernel
def RJ15 : String := "java/util/Objects"
def TJ15 : u_T := fun k => match k with
  | _ => ("", "", "", false)
def tyJ15 : Nat → FieldType := fun k => match k with
  | _ => .int
abbrev wsJ150 : List Cond := u_ws RJ15 TJ15 0
theorem nmJ15 : ∀ a, a < 0 → ∀ b, b < 0 → a ≠ b → (TJ15 a).2.1 ≠ (TJ15 b).2.1 := by decide +kernel
theorem tyJ15_ok : ∀ k, k < 0 → parseFieldDescriptor (TJ15 k).2.2.1 = some (tyJ15 k) := by decide +kernel
abbrev cJ15_checkIndex_7cf53 : ByteArray := prog_25_method_17_code
def yJ15_checkIndex_7cf53 : MethodName := ⟨RJ15, "checkIndex", "(II)I"⟩
def RJxf0a74 : String := "java/util/RandomAccess"
def TJxf0a74 : u_T := fun k => match k with
  | _ => ("", "", "", false)
def tyJxf0a74 : Nat → FieldType := fun k => match k with
  | _ => .int
abbrev wsJxf0a740 : List Cond := u_ws RJxf0a74 TJxf0a74 0
theorem nmJxf0a74 : ∀ a, a < 0 → ∀ b, b < 0 → a ≠ b → (TJxf0a74 a).2.1 ≠ (TJxf0a74 b).2.1 := by decide +kernel
theorem tyJxf0a74_ok : ∀ k, k < 0 → parseFieldDescriptor (TJxf0a74 k).2.2.1 = some (tyJxf0a74 k) := by decide +kernel
def RJxa66e6 : String := "java/util/SequencedCollection"
def TJxa66e6 : u_T := fun k => match k with
  | _ => ("", "", "", false)
def tyJxa66e6 : Nat → FieldType := fun k => match k with
  | _ => .int
abbrev wsJxa66e60 : List Cond := u_ws RJxa66e6 TJxa66e6 0
theorem nmJxa66e6 : ∀ a, a < 0 → ∀ b, b < 0 → a ≠ b → (TJxa66e6 a).2.1 ≠ (TJxa66e6 b).2.1 := by decide +kernel
theorem tyJxa66e6_ok : ∀ k, k < 0 → parseFieldDescriptor (TJxa66e6 k).2.2.1 = some (tyJxa66e6 k) := by decide +kernel
def RJ8 : String := "jdk/internal/util/ArraysSupport"
def TJ8 : u_T := fun k => match k with
  | _ => ("", "", "", false)
def tyJ8 : Nat → FieldType := fun k => match k with
  | _ => .int
abbrev wsJ80 : List Cond := u_ws RJ8 TJ8 0
theorem nmJ8 : ∀ a, a < 0 → ∀ b, b < 0 → a ≠ b → (TJ8 a).2.1 ≠ (TJ8 b).2.1 := by decide +kernel
theorem tyJ8_ok : ∀ k, k < 0 → parseFieldDescriptor (TJ8 k).2.2.1 = some (tyJ8 k) := by decide +kernel
abbrev cJ8_newLength_cabcc : ByteArray := prog_28_method_27_code
def yJ8_newLength_cabcc : MethodName := ⟨RJ8, "newLength", "(III)I"⟩
abbrev cJ8_hugeLength_7cf53 : ByteArray := prog_28_method_28_code
def yJ8_hugeLength_7cf53 : MethodName := ⟨RJ8, "hugeLength", "(II)I"⟩
def RJ3 : String := "jdk/internal/util/Preconditions"
def TJ3 : u_T := fun k => match k with
  | _ => ("", "", "", false)
def tyJ3 : Nat → FieldType := fun k => match k with
  | _ => .int
abbrev wsJ30 : List Cond := u_ws RJ3 TJ3 0
theorem nmJ3 : ∀ a, a < 0 → ∀ b, b < 0 → a ≠ b → (TJ3 a).2.1 ≠ (TJ3 b).2.1 := by decide +kernel
theorem tyJ3_ok : ∀ k, k < 0 → parseFieldDescriptor (TJ3 k).2.2.1 = some (tyJ3 k) := by decide +kernel
abbrev cJ3_checkIndex_8e157 : ByteArray := prog_29_method_11_code
def yJ3_checkIndex_8e157 : MethodName := ⟨RJ3, "checkIndex", "(IILjava/util/function/BiFunction;)I"⟩
def RL : String := "HelpDeskLaw"
abbrev cL_below : ByteArray := method_2_code
def yL_below : MethodName := ⟨RL, "below", "(II)I"⟩
abbrev cL_cell : ByteArray := method_3_code
def yL_cell : MethodName := ⟨RL, "cell", "([II)I"⟩
abbrev cL_build : ByteArray := method_4_code
def yL_build : MethodName := ⟨RL, "build", "(LHelpDesk;[III)[I"⟩
abbrev cL_open : ByteArray := method_5_code
def yL_open : MethodName := ⟨RL, "open", "(LHelpDesk;[II)Z"⟩
abbrev cL_law : ByteArray := code
def yL_law : MethodName := ⟨RL, "law", "([I)Z"⟩
abbrev vwCl : List vw_C := [(RJx4a65c, TJx4a65c, 3), (RX0, TX0, 8), (RX1, TX1, 2), (RX2, TX2, 15), (RX3, TX3, 6)]
