section
-- ===== PART A: goes FIRST, ahead of the names: the tables' words, and 'selects' of the private methods out of them =====
/-- a private method of a class that the tables say can be made, by its rows of tables_1 -/
def lw_okq (q : MethodName × Nat) : Prop := (q.1.cls ≠ "java/lang/invoke/MethodHandle" ∧ q.1.cls ≠ "java/lang/invoke/VarHandle") ∧ Cond.instantiable q.1.cls q.2 ∈ tables_1 ∧ Cond.privateMethod q.1 ∈ tables_1 ∧ Cond.instanceMethod q.1 ∈ tables_1
theorem lw_p0 : lw_okq (⟨"TicketWindows", "beginAct", "()LTicketWindows$Office;"⟩, 7) := ⟨⟨by decide +kernel, by decide +kernel⟩, List.mem_of_getElem? (i := 12) (by decide +kernel), List.mem_of_getElem? (i := 220) (by decide +kernel), List.mem_of_getElem? (i := 221) (by decide +kernel)⟩
theorem lw_p1 : lw_okq (⟨"TicketWindows", "endAct", "(I)I"⟩, 7) := ⟨⟨by decide +kernel, by decide +kernel⟩, List.mem_of_getElem? (i := 12) (by decide +kernel), List.mem_of_getElem? (i := 279) (by decide +kernel), List.mem_of_getElem? (i := 280) (by decide +kernel)⟩
theorem lw_p2 : lw_okq (⟨"TicketWindows", "record", "()V"⟩, 7) := ⟨⟨by decide +kernel, by decide +kernel⟩, List.mem_of_getElem? (i := 12) (by decide +kernel), List.mem_of_getElem? (i := 283) (by decide +kernel), List.mem_of_getElem? (i := 284) (by decide +kernel)⟩
theorem lw_p3 : lw_okq (⟨"TicketWindows$Office", "bringMail", "()V"⟩, 11) := ⟨⟨by decide +kernel, by decide +kernel⟩, List.mem_of_getElem? (i := 20) (by decide +kernel), List.mem_of_getElem? (i := 324) (by decide +kernel), List.mem_of_getElem? (i := 325) (by decide +kernel)⟩
theorem lw_p4 : lw_okq (⟨"TicketWindows$Office", "takeMark", "(II)V"⟩, 11) := ⟨⟨by decide +kernel, by decide +kernel⟩, List.mem_of_getElem? (i := 20) (by decide +kernel), List.mem_of_getElem? (i := 344) (by decide +kernel), List.mem_of_getElem? (i := 345) (by decide +kernel)⟩
theorem lw_p5 : lw_okq (⟨"TicketWindows$Office", "takeQuestion", "(II)V"⟩, 11) := ⟨⟨by decide +kernel, by decide +kernel⟩, List.mem_of_getElem? (i := 20) (by decide +kernel), List.mem_of_getElem? (i := 352) (by decide +kernel), List.mem_of_getElem? (i := 353) (by decide +kernel)⟩
theorem lw_p6 : lw_okq (⟨"TicketWindows$Office", "takeYes", "(II)V"⟩, 11) := ⟨⟨by decide +kernel, by decide +kernel⟩, List.mem_of_getElem? (i := 20) (by decide +kernel), List.mem_of_getElem? (i := 360) (by decide +kernel), List.mem_of_getElem? (i := 361) (by decide +kernel)⟩
theorem lw_p7 : lw_okq (⟨"TicketWindows$Office", "pay", "(II)V"⟩, 11) := ⟨⟨by decide +kernel, by decide +kernel⟩, List.mem_of_getElem? (i := 20) (by decide +kernel), List.mem_of_getElem? (i := 364) (by decide +kernel), List.mem_of_getElem? (i := 365) (by decide +kernel)⟩
theorem lw_p8 : lw_okq (⟨"TicketWindows$Office", "takeNo", "(II)V"⟩, 11) := ⟨⟨by decide +kernel, by decide +kernel⟩, List.mem_of_getElem? (i := 20) (by decide +kernel), List.mem_of_getElem? (i := 404) (by decide +kernel), List.mem_of_getElem? (i := 405) (by decide +kernel)⟩
theorem lw_p9 : lw_okq (⟨"TicketWindows$Office", "serve", "(I)V"⟩, 11) := ⟨⟨by decide +kernel, by decide +kernel⟩, List.mem_of_getElem? (i := 20) (by decide +kernel), List.mem_of_getElem? (i := 416) (by decide +kernel), List.mem_of_getElem? (i := 417) (by decide +kernel)⟩
theorem lw_p10 : lw_okq (⟨"TicketWindows$Office", "settleFirstDispute", "()V"⟩, 11) := ⟨⟨by decide +kernel, by decide +kernel⟩, List.mem_of_getElem? (i := 20) (by decide +kernel), List.mem_of_getElem? (i := 440) (by decide +kernel), List.mem_of_getElem? (i := 441) (by decide +kernel)⟩
theorem lw_p11 : lw_okq (⟨"TicketWindows", "runWithRule", "(II)LTicketWindows$Office;"⟩, 7) := ⟨⟨by decide +kernel, by decide +kernel⟩, List.mem_of_getElem? (i := 12) (by decide +kernel), List.mem_of_getElem? (i := 505) (by decide +kernel), List.mem_of_getElem? (i := 506) (by decide +kernel)⟩
theorem lw_p12 : lw_okq (⟨"TicketWindows$Draws", "winnersOf", "(II)I"⟩, 3) := ⟨⟨by decide +kernel, by decide +kernel⟩, List.mem_of_getElem? (i := 42) (by decide +kernel), List.mem_of_getElem? (i := 562) (by decide +kernel), List.mem_of_getElem? (i := 563) (by decide +kernel)⟩
theorem lw_p13 : lw_okq (⟨"TicketWindows$Draws", "allPrizes", "(I)I"⟩, 3) := ⟨⟨by decide +kernel, by decide +kernel⟩, List.mem_of_getElem? (i := 42) (by decide +kernel), List.mem_of_getElem? (i := 566) (by decide +kernel), List.mem_of_getElem? (i := 567) (by decide +kernel)⟩
def lw_privs_1 : List (MethodName × Nat) := [(⟨"TicketWindows", "beginAct", "()LTicketWindows$Office;"⟩, 7), (⟨"TicketWindows", "endAct", "(I)I"⟩, 7), (⟨"TicketWindows", "record", "()V"⟩, 7), (⟨"TicketWindows$Office", "bringMail", "()V"⟩, 11), (⟨"TicketWindows$Office", "takeMark", "(II)V"⟩, 11), (⟨"TicketWindows$Office", "takeQuestion", "(II)V"⟩, 11), (⟨"TicketWindows$Office", "takeYes", "(II)V"⟩, 11), (⟨"TicketWindows$Office", "pay", "(II)V"⟩, 11), (⟨"TicketWindows$Office", "takeNo", "(II)V"⟩, 11), (⟨"TicketWindows$Office", "serve", "(I)V"⟩, 11), (⟨"TicketWindows$Office", "settleFirstDispute", "()V"⟩, 11), (⟨"TicketWindows", "runWithRule", "(II)LTicketWindows$Office;"⟩, 7), (⟨"TicketWindows$Draws", "winnersOf", "(II)I"⟩, 3), (⟨"TicketWindows$Draws", "allPrizes", "(I)I"⟩, 3)]
theorem lw_r1 : ∀ q ∈ lw_privs_1, lw_okq q := List.forall_mem_cons.mpr ⟨lw_p0, List.forall_mem_cons.mpr ⟨lw_p1, List.forall_mem_cons.mpr ⟨lw_p2, List.forall_mem_cons.mpr ⟨lw_p3, List.forall_mem_cons.mpr ⟨lw_p4, List.forall_mem_cons.mpr ⟨lw_p5, List.forall_mem_cons.mpr ⟨lw_p6, List.forall_mem_cons.mpr ⟨lw_p7, List.forall_mem_cons.mpr ⟨lw_p8, List.forall_mem_cons.mpr ⟨lw_p9, List.forall_mem_cons.mpr ⟨lw_p10, List.forall_mem_cons.mpr ⟨lw_p11, List.forall_mem_cons.mpr ⟨lw_p12, List.forall_mem_cons.mpr ⟨lw_p13, fun _ h => absurd h List.not_mem_nil⟩⟩⟩⟩⟩⟩⟩⟩⟩⟩⟩⟩⟩⟩
def lw_privs : List (MethodName × Nat) := lw_privs_1
def lw_tbl : List Cond := k2_sels lw_privs ++ tables_1
theorem lw_privs_ok : ∀ q ∈ lw_privs, lw_okq q := lw_r1
end
section
def RX0 : String := "TicketWindows$Disputes"
def TX0 : u_T := fun k => match k with
  | 0 => ("TicketWindows$Disputes", "many", "I", false)
  | 1 => ("TicketWindows$Disputes", "opened", "I", false)
  | _ => ("TicketWindows$Disputes", "queue", "[I", true)
def tyX0 : Nat → FieldType := fun k => match k with
  | 0 => .int
  | 1 => .int
  | _ => .array .int
abbrev wsX00 : List Cond := u_ws RX0 TX0 3
theorem nmX0 : ∀ a, a < 3 → ∀ b, b < 3 → a ≠ b → (TX0 a).2.1 ≠ (TX0 b).2.1 := by decide +kernel
theorem tyX0_ok : ∀ k, k < 3 → parseFieldDescriptor (TX0 k).2.2.1 = some (tyX0 k) := by decide +kernel
abbrev cX0_init : ByteArray := prog_2_method_1_code
def yX0_init : MethodName := ⟨RX0, "<init>", "()V"⟩
abbrev cX0_copyFrom : ByteArray := prog_2_method_2_code
def yX0_copyFrom : MethodName := ⟨RX0, "copyFrom", "(LTicketWindows$Disputes;)V"⟩
abbrev cX0_open : ByteArray := prog_2_method_3_code
def yX0_open : MethodName := ⟨RX0, "open", "(I)V"⟩
abbrev cX0_takeFirst : ByteArray := prog_2_method_4_code
def yX0_takeFirst : MethodName := ⟨RX0, "takeFirst", "()I"⟩
def RX1 : String := "TicketWindows$Draws"
def TX1 : u_T := fun k => match k with
  | 0 => ("TicketWindows$Draws", "sold", "[I", true)
  | 1 => ("TicketWindows$Draws", "winning", "[I", true)
  | _ => ("TicketWindows$Draws", "winners", "[I", true)
def tyX1 : Nat → FieldType := fun k => match k with
  | 0 => .array .int
  | 1 => .array .int
  | _ => .array .int
abbrev wsX10 : List Cond := u_ws RX1 TX1 3
theorem nmX1 : ∀ a, a < 3 → ∀ b, b < 3 → a ≠ b → (TX1 a).2.1 ≠ (TX1 b).2.1 := by decide +kernel
theorem tyX1_ok : ∀ k, k < 3 → parseFieldDescriptor (TX1 k).2.2.1 = some (tyX1 k) := by decide +kernel
abbrev cX1_init : ByteArray := prog_3_method_1_code
def yX1_init : MethodName := ⟨RX1, "<init>", "()V"⟩
abbrev cX1_copyFrom : ByteArray := prog_3_method_2_code
def yX1_copyFrom : MethodName := ⟨RX1, "copyFrom", "(LTicketWindows$Draws;)V"⟩
abbrev cX1_isDrawn : ByteArray := prog_3_method_3_code
def yX1_isDrawn : MethodName := ⟨RX1, "isDrawn", "(I)Z"⟩
abbrev cX1_pool : ByteArray := prog_3_method_4_code
def yX1_pool : MethodName := ⟨RX1, "pool", "(I)I"⟩
abbrev cX1_allPools : ByteArray := prog_3_method_5_code
def yX1_allPools : MethodName := ⟨RX1, "allPools", "()I"⟩
abbrev cX1_addWinner : ByteArray := prog_3_method_6_code
def yX1_addWinner : MethodName := ⟨RX1, "addWinner", "(II)V"⟩
abbrev cX1_winnersOf : ByteArray := prog_3_method_7_code
def yX1_winnersOf : MethodName := ⟨RX1, "winnersOf", "(II)I"⟩
abbrev cX1_prize : ByteArray := prog_3_method_8_code
def yX1_prize : MethodName := ⟨RX1, "prize", "(II)I"⟩
abbrev cX1_allPrizes : ByteArray := prog_3_method_9_code
def yX1_allPrizes : MethodName := ⟨RX1, "allPrizes", "(I)I"⟩
abbrev cX1_tell : ByteArray := prog_3_method_10_code
def yX1_tell : MethodName := ⟨RX1, "tell", "(II)I"⟩
def RX2 : String := "TicketWindows$Mail"
def TX2 : u_T := fun k => match k with
  | 0 => ("TicketWindows$Mail", "many", "I", false)
  | 1 => ("TicketWindows$Mail", "due", "[I", true)
  | _ => ("TicketWindows$Mail", "content", "[I", true)
def tyX2 : Nat → FieldType := fun k => match k with
  | 0 => .int
  | 1 => .array .int
  | _ => .array .int
abbrev wsX20 : List Cond := u_ws RX2 TX2 3
theorem nmX2 : ∀ a, a < 3 → ∀ b, b < 3 → a ≠ b → (TX2 a).2.1 ≠ (TX2 b).2.1 := by decide +kernel
theorem tyX2_ok : ∀ k, k < 3 → parseFieldDescriptor (TX2 k).2.2.1 = some (tyX2 k) := by decide +kernel
abbrev cX2_init : ByteArray := prog_4_method_1_code
def yX2_init : MethodName := ⟨RX2, "<init>", "()V"⟩
abbrev cX2_copyFrom : ByteArray := prog_4_method_2_code
def yX2_copyFrom : MethodName := ⟨RX2, "copyFrom", "(LTicketWindows$Mail;)V"⟩
abbrev cX2_send : ByteArray := prog_4_method_3_code
def yX2_send : MethodName := ⟨RX2, "send", "(IIII)V"⟩
abbrev cX2_isDue : ByteArray := prog_4_method_4_code
def yX2_isDue : MethodName := ⟨RX2, "isDue", "(II)Z"⟩
abbrev cX2_kindOfMessage : ByteArray := prog_4_method_5_code
def yX2_kindOfMessage : MethodName := ⟨RX2, "kindOfMessage", "(I)I"⟩
abbrev cX2_windowOfMessage : ByteArray := prog_4_method_6_code
def yX2_windowOfMessage : MethodName := ⟨RX2, "windowOfMessage", "(I)I"⟩
abbrev cX2_ticketOfMessage : ByteArray := prog_4_method_7_code
def yX2_ticketOfMessage : MethodName := ⟨RX2, "ticketOfMessage", "(I)I"⟩
abbrev cX2_dropDue : ByteArray := prog_4_method_8_code
def yX2_dropDue : MethodName := ⟨RX2, "dropDue", "(I)V"⟩
def RX3 : String := "TicketWindows$Office"
def TX3 : u_T := fun k => match k with
  | 0 => ("TicketWindows$Office", "tick", "I", false)
  | 1 => ("TicketWindows$Office", "lot", "I", false)
  | 2 => ("TicketWindows$Office", "settings", "[I", true)
  | 3 => ("TicketWindows$Office", "tickets", "LTicketWindows$Tickets;", true)
  | 4 => ("TicketWindows$Office", "draws", "LTicketWindows$Draws;", true)
  | 5 => ("TicketWindows$Office", "windows", "LTicketWindows$Windows;", true)
  | 6 => ("TicketWindows$Office", "mail", "LTicketWindows$Mail;", true)
  | 7 => ("TicketWindows$Office", "disputes", "LTicketWindows$Disputes;", true)
  | 8 => ("TicketWindows$Office", "paidTwice", "I", false)
  | 9 => ("TicketWindows$Office", "paymentsBack", "I", false)
  | _ => ("TicketWindows$Office", "coinsBack", "I", false)
def tyX3 : Nat → FieldType := fun k => match k with
  | 0 => .int
  | 1 => .int
  | 2 => .array .int
  | 3 => .object "TicketWindows$Tickets"
  | 4 => .object "TicketWindows$Draws"
  | 5 => .object "TicketWindows$Windows"
  | 6 => .object "TicketWindows$Mail"
  | 7 => .object "TicketWindows$Disputes"
  | 8 => .int
  | 9 => .int
  | _ => .int
abbrev wsX30 : List Cond := u_ws RX3 TX3 11
theorem nmX3 : ∀ a, a < 11 → ∀ b, b < 11 → a ≠ b → (TX3 a).2.1 ≠ (TX3 b).2.1 := by decide +kernel
theorem tyX3_ok : ∀ k, k < 11 → parseFieldDescriptor (TX3 k).2.2.1 = some (tyX3 k) := by decide +kernel
abbrev cX3_init : ByteArray := prog_5_method_1_code
def yX3_init : MethodName := ⟨RX3, "<init>", "()V"⟩
abbrev cX3_copyFrom : ByteArray := prog_5_method_2_code
def yX3_copyFrom : MethodName := ⟨RX3, "copyFrom", "(LTicketWindows$Office;)V"⟩
abbrev cX3_sellTicket : ByteArray := prog_5_method_3_code
def yX3_sellTicket : MethodName := ⟨RX3, "sellTicket", "(I)I"⟩
abbrev cX3_drawByLot : ByteArray := prog_5_method_4_code
def yX3_drawByLot : MethodName := ⟨RX3, "drawByLot", "(I)I"⟩
abbrev cX3_classOfNumber : ByteArray := prog_5_method_5_code
def yX3_classOfNumber : MethodName := ⟨RX3, "classOfNumber", "(II)I"⟩
abbrev cX3_addCustomer : ByteArray := prog_5_method_6_code
def yX3_addCustomer : MethodName := ⟨RX3, "addCustomer", "(II)I"⟩
abbrev cX3_removeCustomers : ByteArray := prog_5_method_7_code
def yX3_removeCustomers : MethodName := ⟨RX3, "removeCustomers", "(I)I"⟩
abbrev cX3_passTicks : ByteArray := prog_5_method_8_code
def yX3_passTicks : MethodName := ⟨RX3, "passTicks", "(I)I"⟩
abbrev cX3_changeSetting : ByteArray := prog_5_method_9_code
def yX3_changeSetting : MethodName := ⟨RX3, "changeSetting", "(II)I"⟩
abbrev cX3_runTicks : ByteArray := prog_5_method_10_code
def yX3_runTicks : MethodName := ⟨RX3, "runTicks", "(I)V"⟩
abbrev cX3_bringMail : ByteArray := prog_5_method_11_code
def yX3_bringMail : MethodName := ⟨RX3, "bringMail", "()V"⟩
abbrev cX3_takeMark : ByteArray := prog_5_method_12_code
def yX3_takeMark : MethodName := ⟨RX3, "takeMark", "(II)V"⟩
abbrev cX3_takeQuestion : ByteArray := prog_5_method_13_code
def yX3_takeQuestion : MethodName := ⟨RX3, "takeQuestion", "(II)V"⟩
abbrev cX3_takeYes : ByteArray := prog_5_method_14_code
def yX3_takeYes : MethodName := ⟨RX3, "takeYes", "(II)V"⟩
abbrev cX3_takeNo : ByteArray := prog_5_method_15_code
def yX3_takeNo : MethodName := ⟨RX3, "takeNo", "(II)V"⟩
abbrev cX3_serve : ByteArray := prog_5_method_16_code
def yX3_serve : MethodName := ⟨RX3, "serve", "(I)V"⟩
abbrev cX3_reasonAgainst : ByteArray := prog_5_method_17_code
def yX3_reasonAgainst : MethodName := ⟨RX3, "reasonAgainst", "(II)I"⟩
abbrev cX3_pay : ByteArray := prog_5_method_18_code
def yX3_pay : MethodName := ⟨RX3, "pay", "(II)V"⟩
abbrev cX3_settleFirstDispute : ByteArray := prog_5_method_19_code
def yX3_settleFirstDispute : MethodName := ⟨RX3, "settleFirstDispute", "()V"⟩
abbrev cX3_prizeOf : ByteArray := prog_5_method_20_code
def yX3_prizeOf : MethodName := ⟨RX3, "prizeOf", "(I)I"⟩
abbrev cX3_coinsByTickets : ByteArray := prog_5_method_21_code
def yX3_coinsByTickets : MethodName := ⟨RX3, "coinsByTickets", "()I"⟩
abbrev cX3_coinsByWindows : ByteArray := prog_5_method_22_code
def yX3_coinsByWindows : MethodName := ⟨RX3, "coinsByWindows", "()I"⟩
abbrev cX3_tellTicket : ByteArray := prog_5_method_23_code
def yX3_tellTicket : MethodName := ⟨RX3, "tellTicket", "(II)I"⟩
abbrev cX3_tellTotal : ByteArray := prog_5_method_24_code
def yX3_tellTotal : MethodName := ⟨RX3, "tellTotal", "(I)I"⟩
def RX4 : String := "TicketWindows$Orders"
def TX4 : u_T := fun k => match k with
  | 0 => ("TicketWindows$Orders", "length", "I", false)
  | 1 => ("TicketWindows$Orders", "many", "I", false)
  | 2 => ("TicketWindows$Orders", "sign", "[C", true)
  | 3 => ("TicketWindows$Orders", "window", "[I", true)
  | 4 => ("TicketWindows$Orders", "number", "[I", true)
  | 5 => ("TicketWindows$Orders", "text", "[C", true)
  | _ => ("TicketWindows$Orders", "place", "I", false)
def tyX4 : Nat → FieldType := fun k => match k with
  | 0 => .int
  | 1 => .int
  | 2 => .array .char
  | 3 => .array .int
  | 4 => .array .int
  | 5 => .array .char
  | _ => .int
abbrev wsX40 : List Cond := u_ws RX4 TX4 7
theorem nmX4 : ∀ a, a < 7 → ∀ b, b < 7 → a ≠ b → (TX4 a).2.1 ≠ (TX4 b).2.1 := by decide +kernel
theorem tyX4_ok : ∀ k, k < 7 → parseFieldDescriptor (TX4 k).2.2.1 = some (tyX4 k) := by decide +kernel
abbrev cX4_init : ByteArray := prog_6_method_1_code
def yX4_init : MethodName := ⟨RX4, "<init>", "()V"⟩
def RX5 : String := "TicketWindows$Tickets"
def TX5 : u_T := fun k => match k with
  | 0 => ("TicketWindows$Tickets", "facts", "[I", true)
  | _ => ("TicketWindows$Tickets", "firstPayment", "[I", true)
def tyX5 : Nat → FieldType := fun k => match k with
  | 0 => .array .int
  | _ => .array .int
abbrev wsX50 : List Cond := u_ws RX5 TX5 2
theorem nmX5 : ∀ a, a < 2 → ∀ b, b < 2 → a ≠ b → (TX5 a).2.1 ≠ (TX5 b).2.1 := by decide +kernel
theorem tyX5_ok : ∀ k, k < 2 → parseFieldDescriptor (TX5 k).2.2.1 = some (tyX5 k) := by decide +kernel
abbrev cX5_init : ByteArray := prog_7_method_1_code
def yX5_init : MethodName := ⟨RX5, "<init>", "()V"⟩
abbrev cX5_copyFrom : ByteArray := prog_7_method_2_code
def yX5_copyFrom : MethodName := ⟨RX5, "copyFrom", "(LTicketWindows$Tickets;)V"⟩
abbrev cX5_has : ByteArray := prog_7_method_3_code
def yX5_has : MethodName := ⟨RX5, "has", "(II)Z"⟩
abbrev cX5_add : ByteArray := prog_7_method_4_code
def yX5_add : MethodName := ⟨RX5, "add", "(II)V"⟩
abbrev cX5_remove : ByteArray := prog_7_method_5_code
def yX5_remove : MethodName := ⟨RX5, "remove", "(II)V"⟩
abbrev cX5_classOfTicket : ByteArray := prog_7_method_6_code
def yX5_classOfTicket : MethodName := ⟨RX5, "classOfTicket", "(I)I"⟩
abbrev cX5_windowBits : ByteArray := prog_7_method_7_code
def yX5_windowBits : MethodName := ⟨RX5, "windowBits", "(II)I"⟩
abbrev cX5_marksOf : ByteArray := prog_7_method_8_code
def yX5_marksOf : MethodName := ⟨RX5, "marksOf", "(I)I"⟩
abbrev cX5_notePayment : ByteArray := prog_7_method_9_code
def yX5_notePayment : MethodName := ⟨RX5, "notePayment", "(III)V"⟩
abbrev cX5_firstPayer : ByteArray := prog_7_method_10_code
def yX5_firstPayer : MethodName := ⟨RX5, "firstPayer", "(I)I"⟩
def RX6 : String := "TicketWindows$Windows"
def TX6 : u_T := fun k => match k with
  | 0 => ("TicketWindows$Windows", "rows", "[I", true)
  | 1 => ("TicketWindows$Windows", "length", "[I", true)
  | 2 => ("TicketWindows$Windows", "waitsFor", "[I", true)
  | 3 => ("TicketWindows$Windows", "waited", "[I", true)
  | 4 => ("TicketWindows$Windows", "coins", "[I", true)
  | 5 => ("TicketWindows$Windows", "paidCustomers", "[I", true)
  | 6 => ("TicketWindows$Windows", "sentAway", "[I", true)
  | _ => ("TicketWindows$Windows", "latestReason", "[I", true)
def tyX6 : Nat → FieldType := fun k => match k with
  | 0 => .array .int
  | 1 => .array .int
  | 2 => .array .int
  | 3 => .array .int
  | 4 => .array .int
  | 5 => .array .int
  | 6 => .array .int
  | _ => .array .int
abbrev wsX60 : List Cond := u_ws RX6 TX6 8
theorem nmX6 : ∀ a, a < 8 → ∀ b, b < 8 → a ≠ b → (TX6 a).2.1 ≠ (TX6 b).2.1 := by decide +kernel
theorem tyX6_ok : ∀ k, k < 8 → parseFieldDescriptor (TX6 k).2.2.1 = some (tyX6 k) := by decide +kernel
abbrev cX6_init : ByteArray := prog_8_method_1_code
def yX6_init : MethodName := ⟨RX6, "<init>", "()V"⟩
abbrev cX6_copyFrom : ByteArray := prog_8_method_2_code
def yX6_copyFrom : MethodName := ⟨RX6, "copyFrom", "(LTicketWindows$Windows;)V"⟩
abbrev cX6_append : ByteArray := prog_8_method_3_code
def yX6_append : MethodName := ⟨RX6, "append", "(II)I"⟩
abbrev cX6_takeFirst : ByteArray := prog_8_method_4_code
def yX6_takeFirst : MethodName := ⟨RX6, "takeFirst", "(I)I"⟩
abbrev cX6_removeAll : ByteArray := prog_8_method_5_code
def yX6_removeAll : MethodName := ⟨RX6, "removeAll", "(I)I"⟩
abbrev cX6_customersWith : ByteArray := prog_8_method_6_code
def yX6_customersWith : MethodName := ⟨RX6, "customersWith", "(I)I"⟩
abbrev cX6_isWaiting : ByteArray := prog_8_method_7_code
def yX6_isWaiting : MethodName := ⟨RX6, "isWaiting", "(I)Z"⟩
abbrev cX6_waitsTooLong : ByteArray := prog_8_method_8_code
def yX6_waitsTooLong : MethodName := ⟨RX6, "waitsTooLong", "(II)Z"⟩
abbrev cX6_startWaiting : ByteArray := prog_8_method_9_code
def yX6_startWaiting : MethodName := ⟨RX6, "startWaiting", "(II)V"⟩
abbrev cX6_countWaiting : ByteArray := prog_8_method_10_code
def yX6_countWaiting : MethodName := ⟨RX6, "countWaiting", "()V"⟩
abbrev cX6_sendAway : ByteArray := prog_8_method_11_code
def yX6_sendAway : MethodName := ⟨RX6, "sendAway", "(II)V"⟩
abbrev cX6_addPayment : ByteArray := prog_8_method_12_code
def yX6_addPayment : MethodName := ⟨RX6, "addPayment", "(II)V"⟩
abbrev cX6_payments : ByteArray := prog_8_method_13_code
def yX6_payments : MethodName := ⟨RX6, "payments", "()I"⟩
abbrev cX6_allCoins : ByteArray := prog_8_method_14_code
def yX6_allCoins : MethodName := ⟨RX6, "allCoins", "()I"⟩
abbrev cX6_allSentAway : ByteArray := prog_8_method_15_code
def yX6_allSentAway : MethodName := ⟨RX6, "allSentAway", "()I"⟩
abbrev cX6_allCustomers : ByteArray := prog_8_method_16_code
def yX6_allCustomers : MethodName := ⟨RX6, "allCustomers", "()I"⟩
abbrev cX6_sum : ByteArray := prog_8_method_17_code
def yX6_sum : MethodName := ⟨RX6, "sum", "([I)I"⟩
abbrev cX6_shortestRow : ByteArray := prog_8_method_18_code
def yX6_shortestRow : MethodName := ⟨RX6, "shortestRow", "()I"⟩
abbrev cX6_tell : ByteArray := prog_8_method_19_code
def yX6_tell : MethodName := ⟨RX6, "tell", "(II)I"⟩
def RX7 : String := "TicketWindows"
def TX7 : u_T := fun k => match k with
  | 0 => ("TicketWindows", "now", "LTicketWindows$Office;", false)
  | 1 => ("TicketWindows", "spare", "LTicketWindows$Office;", false)
  | 2 => ("TicketWindows", "past", "[LTicketWindows$Office;", true)
  | 3 => ("TicketWindows", "states", "I", false)
  | 4 => ("TicketWindows", "snapshot", "LTicketWindows$Office;", true)
  | 5 => ("TicketWindows", "hasSnapshot", "Z", false)
  | _ => ("TicketWindows", "orders", "LTicketWindows$Orders;", true)
def tyX7 : Nat → FieldType := fun k => match k with
  | 0 => .object "TicketWindows$Office"
  | 1 => .object "TicketWindows$Office"
  | 2 => .array (.object "TicketWindows$Office")
  | 3 => .int
  | 4 => .object "TicketWindows$Office"
  | 5 => .boolean
  | _ => .object "TicketWindows$Orders"
abbrev wsX70 : List Cond := u_ws RX7 TX7 7
theorem nmX7 : ∀ a, a < 7 → ∀ b, b < 7 → a ≠ b → (TX7 a).2.1 ≠ (TX7 b).2.1 := by decide +kernel
theorem tyX7_ok : ∀ k, k < 7 → parseFieldDescriptor (TX7 k).2.2.1 = some (tyX7 k) := by decide +kernel
abbrev cX7_init : ByteArray := prog_1_method_1_code
def yX7_init : MethodName := ⟨RX7, "<init>", "()V"⟩
abbrev cX7_sell : ByteArray := prog_1_method_2_code
def yX7_sell : MethodName := ⟨RX7, "sell", "(I)I"⟩
abbrev cX7_draw : ByteArray := prog_1_method_3_code
def yX7_draw : MethodName := ⟨RX7, "draw", "(I)I"⟩
abbrev cX7_come : ByteArray := prog_1_method_4_code
def yX7_come : MethodName := ⟨RX7, "come", "(II)I"⟩
abbrev cX7_leave : ByteArray := prog_1_method_5_code
def yX7_leave : MethodName := ⟨RX7, "leave", "(I)I"⟩
abbrev cX7_pass : ByteArray := prog_1_method_6_code
def yX7_pass : MethodName := ⟨RX7, "pass", "(I)I"⟩
abbrev cX7_set : ByteArray := prog_1_method_7_code
def yX7_set : MethodName := ⟨RX7, "set", "(II)I"⟩
abbrev cX7_undo : ByteArray := prog_1_method_12_code
def yX7_undo : MethodName := ⟨RX7, "undo", "()I"⟩
abbrev cX7_ticketOf : ByteArray := prog_1_method_15_code
def yX7_ticketOf : MethodName := ⟨RX7, "ticketOf", "(II)I"⟩
abbrev cX7_drawOf : ByteArray := prog_1_method_16_code
def yX7_drawOf : MethodName := ⟨RX7, "drawOf", "(II)I"⟩
abbrev cX7_windowOf : ByteArray := prog_1_method_17_code
def yX7_windowOf : MethodName := ⟨RX7, "windowOf", "(II)I"⟩
abbrev cX7_count : ByteArray := prog_1_method_18_code
def yX7_count : MethodName := ⟨RX7, "count", "(I)I"⟩
abbrev cX7_paid : ByteArray := prog_1_method_19_code
def yX7_paid : MethodName := ⟨RX7, "paid", "(Z)I"⟩
abbrev cX7_why : ByteArray := prog_1_method_20_code
def yX7_why : MethodName := ⟨RX7, "why", "(II)I"⟩
abbrev cX7_ifRule : ByteArray := prog_1_method_21_code
def yX7_ifRule : MethodName := ⟨RX7, "ifRule", "(III)I"⟩
abbrev cX7_bestRule : ByteArray := prog_1_method_22_code
def yX7_bestRule : MethodName := ⟨RX7, "bestRule", "()I"⟩
abbrev cX7_shortest : ByteArray := prog_1_method_23_code
def yX7_shortest : MethodName := ⟨RX7, "shortest", "()I"⟩
abbrev cX7_beginAct : ByteArray := prog_1_method_24_code
def yX7_beginAct : MethodName := ⟨RX7, "beginAct", "()LTicketWindows$Office;"⟩
abbrev cX7_endAct : ByteArray := prog_1_method_25_code
def yX7_endAct : MethodName := ⟨RX7, "endAct", "(I)I"⟩
abbrev cX7_record : ByteArray := prog_1_method_26_code
def yX7_record : MethodName := ⟨RX7, "record", "()V"⟩
abbrev cX7_runWithRule : ByteArray := prog_1_method_27_code
def yX7_runWithRule : MethodName := ⟨RX7, "runWithRule", "(II)LTicketWindows$Office;"⟩
abbrev cX7_isTicket : ByteArray := prog_1_method_28_code
def yX7_isTicket : MethodName := ⟨RX7, "isTicket", "(I)Z"⟩
abbrev cX7_isDraw : ByteArray := prog_1_method_29_code
def yX7_isDraw : MethodName := ⟨RX7, "isDraw", "(I)Z"⟩
abbrev cX7_isWindow : ByteArray := prog_1_method_30_code
def yX7_isWindow : MethodName := ⟨RX7, "isWindow", "(I)Z"⟩
abbrev cX7_areTicks : ByteArray := prog_1_method_31_code
def yX7_areTicks : MethodName := ⟨RX7, "areTicks", "(I)Z"⟩
abbrev cX7_isSetting : ByteArray := prog_1_method_32_code
def yX7_isSetting : MethodName := ⟨RX7, "isSetting", "(II)Z"⟩
def RX8 : String := "TicketWindowsModel"
def TX8 : u_T := fun k => match k with
  | _ => ("", "", "", false)
def tyX8 : Nat → FieldType := fun k => match k with
  | _ => .int
abbrev wsX80 : List Cond := u_ws RX8 TX8 0
theorem nmX8 : ∀ a, a < 0 → ∀ b, b < 0 → a ≠ b → (TX8 a).2.1 ≠ (TX8 b).2.1 := by decide +kernel
theorem tyX8_ok : ∀ k, k < 0 → parseFieldDescriptor (TX8 k).2.2.1 = some (tyX8 k) := by decide +kernel
def RJ6 : String := "java/lang/Integer"
def TJ6 : u_T := fun k => match k with
  | _ => ("", "", "", false)
def tyJ6 : Nat → FieldType := fun k => match k with
  | _ => .int
abbrev wsJ60 : List Cond := u_ws RJ6 TJ6 0
theorem nmJ6 : ∀ a, a < 0 → ∀ b, b < 0 → a ≠ b → (TJ6 a).2.1 ≠ (TJ6 b).2.1 := by decide +kernel
theorem tyJ6_ok : ∀ k, k < 0 → parseFieldDescriptor (TJ6 k).2.2.1 = some (tyJ6 k) := by decide +kernel
abbrev cJ6_bitCount_0f7a4 : ByteArray := prog_11_method_49_code
def yJ6_bitCount_0f7a4 : MethodName := ⟨RJ6, "bitCount", "(I)I"⟩
def RJ10 : String := "java/lang/System"
def TJ10 : u_T := fun k => match k with
  | _ => ("", "", "", false)
def tyJ10 : Nat → FieldType := fun k => match k with
  | _ => .int
abbrev wsJ100 : List Cond := u_ws RJ10 TJ10 0
theorem nmJ10 : ∀ a, a < 0 → ∀ b, b < 0 → a ≠ b → (TJ10 a).2.1 ≠ (TJ10 b).2.1 := by decide +kernel
theorem tyJ10_ok : ∀ k, k < 0 → parseFieldDescriptor (TJ10 k).2.2.1 = some (tyJ10 k) := by decide +kernel
def RL : String := "TicketWindowsLaw"
abbrev cL_cell : ByteArray := method_2_code
def yL_cell : MethodName := ⟨RL, "cell", "([II)I"⟩
abbrev cL_low : ByteArray := method_3_code
def yL_low : MethodName := ⟨RL, "low", "(II)I"⟩
abbrev cL_tell : ByteArray := method_4_code
def yL_tell : MethodName := ⟨RL, "tell", "(LTicketWindows;)[I"⟩
abbrev cL_same : ByteArray := method_5_code
def yL_same : MethodName := ⟨RL, "same", "([I[I)Z"⟩
abbrev cL_accounts : ByteArray := method_6_code
def yL_accounts : MethodName := ⟨RL, "accounts", "(LTicketWindows;)Z"⟩
abbrev cL_tickets : ByteArray := method_7_code
def yL_tickets : MethodName := ⟨RL, "tickets", "(LTicketWindows;I)Z"⟩
abbrev cL_act : ByteArray := method_8_code
def yL_act : MethodName := ⟨RL, "act", "(LTicketWindows;II)I"⟩
abbrev cL_law : ByteArray := code
def yL_law : MethodName := ⟨RL, "law", "([I)Z"⟩
abbrev vwCl : List vw_C := [(RX0, TX0, 3), (RX1, TX1, 3), (RX2, TX2, 3), (RX3, TX3, 11), (RX4, TX4, 7), (RX5, TX5, 2), (RX6, TX6, 8), (RX7, TX7, 7)]
end
section
/-! MADE BY wip/gen/gen.py: the methods by number (0 the law), their code with the links resolved to my numbers -/
abbrev En : Type := Instr × Nat × Nat × Nat × Nat × Nat
def mY (m : Nat) : MethodName := if m < 51 then (if m < 25 then (if m < 12 then (if m < 6 then (if m < 3 then (if m < 1 then (if m = 0 then yL_law else yL_law) else (if m < 2 then (if m = 1 then yX0_copyFrom else yL_law) else (if m = 2 then yX0_open else yL_law))) else (if m < 4 then (if m = 3 then yX0_takeFirst else yL_law) else (if m < 5 then (if m = 4 then yX1_copyFrom else yL_law) else (if m = 5 then yX1_isDrawn else yL_law)))) else (if m < 9 then (if m < 7 then (if m = 6 then yX1_pool else yL_law) else (if m < 8 then (if m = 7 then yX1_allPools else yL_law) else (if m = 8 then yX1_addWinner else yL_law))) else (if m < 10 then (if m = 9 then yX1_winnersOf else yL_law) else (if m < 11 then (if m = 10 then yX1_prize else yL_law) else (if m = 11 then yX1_allPrizes else yL_law))))) else (if m < 18 then (if m < 15 then (if m < 13 then (if m = 12 then yX1_tell else yL_law) else (if m < 14 then (if m = 13 then yX2_copyFrom else yL_law) else (if m = 14 then yX2_send else yL_law))) else (if m < 16 then (if m = 15 then yX2_isDue else yL_law) else (if m < 17 then (if m = 16 then yX2_kindOfMessage else yL_law) else (if m = 17 then yX2_windowOfMessage else yL_law)))) else (if m < 21 then (if m < 19 then (if m = 18 then yX2_ticketOfMessage else yL_law) else (if m < 20 then (if m = 19 then yX2_dropDue else yL_law) else (if m = 20 then yX3_copyFrom else yL_law))) else (if m < 23 then (if m < 22 then (if m = 21 then yX3_sellTicket else yL_law) else (if m = 22 then yX3_drawByLot else yL_law)) else (if m < 24 then (if m = 23 then yX3_classOfNumber else yL_law) else (if m = 24 then yX3_addCustomer else yL_law)))))) else (if m < 38 then (if m < 31 then (if m < 28 then (if m < 26 then (if m = 25 then yX3_removeCustomers else yL_law) else (if m < 27 then (if m = 26 then yX3_passTicks else yL_law) else (if m = 27 then yX3_changeSetting else yL_law))) else (if m < 29 then (if m = 28 then yX3_runTicks else yL_law) else (if m < 30 then (if m = 29 then yX3_bringMail else yL_law) else (if m = 30 then yX3_takeMark else yL_law)))) else (if m < 34 then (if m < 32 then (if m = 31 then yX3_takeQuestion else yL_law) else (if m < 33 then (if m = 32 then yX3_takeYes else yL_law) else (if m = 33 then yX3_takeNo else yL_law))) else (if m < 36 then (if m < 35 then (if m = 34 then yX3_serve else yL_law) else (if m = 35 then yX3_reasonAgainst else yL_law)) else (if m < 37 then (if m = 36 then yX3_pay else yL_law) else (if m = 37 then yX3_settleFirstDispute else yL_law))))) else (if m < 44 then (if m < 41 then (if m < 39 then (if m = 38 then yX3_prizeOf else yL_law) else (if m < 40 then (if m = 39 then yX3_coinsByTickets else yL_law) else (if m = 40 then yX3_coinsByWindows else yL_law))) else (if m < 42 then (if m = 41 then yX3_tellTicket else yL_law) else (if m < 43 then (if m = 42 then yX3_tellTotal else yL_law) else (if m = 43 then yX5_copyFrom else yL_law)))) else (if m < 47 then (if m < 45 then (if m = 44 then yX5_has else yL_law) else (if m < 46 then (if m = 45 then yX5_add else yL_law) else (if m = 46 then yX5_remove else yL_law))) else (if m < 49 then (if m < 48 then (if m = 47 then yX5_classOfTicket else yL_law) else (if m = 48 then yX5_windowBits else yL_law)) else (if m < 50 then (if m = 49 then yX5_marksOf else yL_law) else (if m = 50 then yX5_notePayment else yL_law))))))) else (if m < 77 then (if m < 64 then (if m < 57 then (if m < 54 then (if m < 52 then (if m = 51 then yX5_firstPayer else yL_law) else (if m < 53 then (if m = 52 then yX6_copyFrom else yL_law) else (if m = 53 then yX6_append else yL_law))) else (if m < 55 then (if m = 54 then yX6_takeFirst else yL_law) else (if m < 56 then (if m = 55 then yX6_removeAll else yL_law) else (if m = 56 then yX6_customersWith else yL_law)))) else (if m < 60 then (if m < 58 then (if m = 57 then yX6_isWaiting else yL_law) else (if m < 59 then (if m = 58 then yX6_waitsTooLong else yL_law) else (if m = 59 then yX6_startWaiting else yL_law))) else (if m < 62 then (if m < 61 then (if m = 60 then yX6_countWaiting else yL_law) else (if m = 61 then yX6_sendAway else yL_law)) else (if m < 63 then (if m = 62 then yX6_addPayment else yL_law) else (if m = 63 then yX6_payments else yL_law))))) else (if m < 70 then (if m < 67 then (if m < 65 then (if m = 64 then yX6_allCoins else yL_law) else (if m < 66 then (if m = 65 then yX6_allSentAway else yL_law) else (if m = 66 then yX6_allCustomers else yL_law))) else (if m < 68 then (if m = 67 then yX6_sum else yL_law) else (if m < 69 then (if m = 68 then yX6_shortestRow else yL_law) else (if m = 69 then yX6_tell else yL_law)))) else (if m < 73 then (if m < 71 then (if m = 70 then yX7_sell else yL_law) else (if m < 72 then (if m = 71 then yX7_draw else yL_law) else (if m = 72 then yX7_come else yL_law))) else (if m < 75 then (if m < 74 then (if m = 73 then yX7_leave else yL_law) else (if m = 74 then yX7_pass else yL_law)) else (if m < 76 then (if m = 75 then yX7_set else yL_law) else (if m = 76 then yX7_undo else yL_law)))))) else (if m < 90 then (if m < 83 then (if m < 80 then (if m < 78 then (if m = 77 then yX7_ticketOf else yL_law) else (if m < 79 then (if m = 78 then yX7_drawOf else yL_law) else (if m = 79 then yX7_windowOf else yL_law))) else (if m < 81 then (if m = 80 then yX7_count else yL_law) else (if m < 82 then (if m = 81 then yX7_paid else yL_law) else (if m = 82 then yX7_why else yL_law)))) else (if m < 86 then (if m < 84 then (if m = 83 then yX7_ifRule else yL_law) else (if m < 85 then (if m = 84 then yX7_bestRule else yL_law) else (if m = 85 then yX7_shortest else yL_law))) else (if m < 88 then (if m < 87 then (if m = 86 then yX7_beginAct else yL_law) else (if m = 87 then yX7_endAct else yL_law)) else (if m < 89 then (if m = 88 then yX7_record else yL_law) else (if m = 89 then yX7_runWithRule else yL_law))))) else (if m < 96 then (if m < 93 then (if m < 91 then (if m = 90 then yX7_isTicket else yL_law) else (if m < 92 then (if m = 91 then yX7_isDraw else yL_law) else (if m = 92 then yX7_isWindow else yL_law))) else (if m < 94 then (if m = 93 then yX7_areTicks else yL_law) else (if m < 95 then (if m = 94 then yX7_isSetting else yL_law) else (if m = 95 then yJ6_bitCount_0f7a4 else yL_law)))) else (if m < 99 then (if m < 97 then (if m = 96 then yL_cell else yL_law) else (if m < 98 then (if m = 97 then yL_low else yL_law) else (if m = 98 then yL_tell else yL_law))) else (if m < 101 then (if m < 100 then (if m = 99 then yL_same else yL_law) else (if m = 100 then yL_accounts else yL_law)) else (if m < 102 then (if m = 101 then yL_tickets else yL_law) else (if m = 102 then yL_act else yL_law)))))))
def mB (m : Nat) : ByteArray := if m < 51 then (if m < 25 then (if m < 12 then (if m < 6 then (if m < 3 then (if m < 1 then (if m = 0 then cL_law else cL_law) else (if m < 2 then (if m = 1 then cX0_copyFrom else cL_law) else (if m = 2 then cX0_open else cL_law))) else (if m < 4 then (if m = 3 then cX0_takeFirst else cL_law) else (if m < 5 then (if m = 4 then cX1_copyFrom else cL_law) else (if m = 5 then cX1_isDrawn else cL_law)))) else (if m < 9 then (if m < 7 then (if m = 6 then cX1_pool else cL_law) else (if m < 8 then (if m = 7 then cX1_allPools else cL_law) else (if m = 8 then cX1_addWinner else cL_law))) else (if m < 10 then (if m = 9 then cX1_winnersOf else cL_law) else (if m < 11 then (if m = 10 then cX1_prize else cL_law) else (if m = 11 then cX1_allPrizes else cL_law))))) else (if m < 18 then (if m < 15 then (if m < 13 then (if m = 12 then cX1_tell else cL_law) else (if m < 14 then (if m = 13 then cX2_copyFrom else cL_law) else (if m = 14 then cX2_send else cL_law))) else (if m < 16 then (if m = 15 then cX2_isDue else cL_law) else (if m < 17 then (if m = 16 then cX2_kindOfMessage else cL_law) else (if m = 17 then cX2_windowOfMessage else cL_law)))) else (if m < 21 then (if m < 19 then (if m = 18 then cX2_ticketOfMessage else cL_law) else (if m < 20 then (if m = 19 then cX2_dropDue else cL_law) else (if m = 20 then cX3_copyFrom else cL_law))) else (if m < 23 then (if m < 22 then (if m = 21 then cX3_sellTicket else cL_law) else (if m = 22 then cX3_drawByLot else cL_law)) else (if m < 24 then (if m = 23 then cX3_classOfNumber else cL_law) else (if m = 24 then cX3_addCustomer else cL_law)))))) else (if m < 38 then (if m < 31 then (if m < 28 then (if m < 26 then (if m = 25 then cX3_removeCustomers else cL_law) else (if m < 27 then (if m = 26 then cX3_passTicks else cL_law) else (if m = 27 then cX3_changeSetting else cL_law))) else (if m < 29 then (if m = 28 then cX3_runTicks else cL_law) else (if m < 30 then (if m = 29 then cX3_bringMail else cL_law) else (if m = 30 then cX3_takeMark else cL_law)))) else (if m < 34 then (if m < 32 then (if m = 31 then cX3_takeQuestion else cL_law) else (if m < 33 then (if m = 32 then cX3_takeYes else cL_law) else (if m = 33 then cX3_takeNo else cL_law))) else (if m < 36 then (if m < 35 then (if m = 34 then cX3_serve else cL_law) else (if m = 35 then cX3_reasonAgainst else cL_law)) else (if m < 37 then (if m = 36 then cX3_pay else cL_law) else (if m = 37 then cX3_settleFirstDispute else cL_law))))) else (if m < 44 then (if m < 41 then (if m < 39 then (if m = 38 then cX3_prizeOf else cL_law) else (if m < 40 then (if m = 39 then cX3_coinsByTickets else cL_law) else (if m = 40 then cX3_coinsByWindows else cL_law))) else (if m < 42 then (if m = 41 then cX3_tellTicket else cL_law) else (if m < 43 then (if m = 42 then cX3_tellTotal else cL_law) else (if m = 43 then cX5_copyFrom else cL_law)))) else (if m < 47 then (if m < 45 then (if m = 44 then cX5_has else cL_law) else (if m < 46 then (if m = 45 then cX5_add else cL_law) else (if m = 46 then cX5_remove else cL_law))) else (if m < 49 then (if m < 48 then (if m = 47 then cX5_classOfTicket else cL_law) else (if m = 48 then cX5_windowBits else cL_law)) else (if m < 50 then (if m = 49 then cX5_marksOf else cL_law) else (if m = 50 then cX5_notePayment else cL_law))))))) else (if m < 77 then (if m < 64 then (if m < 57 then (if m < 54 then (if m < 52 then (if m = 51 then cX5_firstPayer else cL_law) else (if m < 53 then (if m = 52 then cX6_copyFrom else cL_law) else (if m = 53 then cX6_append else cL_law))) else (if m < 55 then (if m = 54 then cX6_takeFirst else cL_law) else (if m < 56 then (if m = 55 then cX6_removeAll else cL_law) else (if m = 56 then cX6_customersWith else cL_law)))) else (if m < 60 then (if m < 58 then (if m = 57 then cX6_isWaiting else cL_law) else (if m < 59 then (if m = 58 then cX6_waitsTooLong else cL_law) else (if m = 59 then cX6_startWaiting else cL_law))) else (if m < 62 then (if m < 61 then (if m = 60 then cX6_countWaiting else cL_law) else (if m = 61 then cX6_sendAway else cL_law)) else (if m < 63 then (if m = 62 then cX6_addPayment else cL_law) else (if m = 63 then cX6_payments else cL_law))))) else (if m < 70 then (if m < 67 then (if m < 65 then (if m = 64 then cX6_allCoins else cL_law) else (if m < 66 then (if m = 65 then cX6_allSentAway else cL_law) else (if m = 66 then cX6_allCustomers else cL_law))) else (if m < 68 then (if m = 67 then cX6_sum else cL_law) else (if m < 69 then (if m = 68 then cX6_shortestRow else cL_law) else (if m = 69 then cX6_tell else cL_law)))) else (if m < 73 then (if m < 71 then (if m = 70 then cX7_sell else cL_law) else (if m < 72 then (if m = 71 then cX7_draw else cL_law) else (if m = 72 then cX7_come else cL_law))) else (if m < 75 then (if m < 74 then (if m = 73 then cX7_leave else cL_law) else (if m = 74 then cX7_pass else cL_law)) else (if m < 76 then (if m = 75 then cX7_set else cL_law) else (if m = 76 then cX7_undo else cL_law)))))) else (if m < 90 then (if m < 83 then (if m < 80 then (if m < 78 then (if m = 77 then cX7_ticketOf else cL_law) else (if m < 79 then (if m = 78 then cX7_drawOf else cL_law) else (if m = 79 then cX7_windowOf else cL_law))) else (if m < 81 then (if m = 80 then cX7_count else cL_law) else (if m < 82 then (if m = 81 then cX7_paid else cL_law) else (if m = 82 then cX7_why else cL_law)))) else (if m < 86 then (if m < 84 then (if m = 83 then cX7_ifRule else cL_law) else (if m < 85 then (if m = 84 then cX7_bestRule else cL_law) else (if m = 85 then cX7_shortest else cL_law))) else (if m < 88 then (if m < 87 then (if m = 86 then cX7_beginAct else cL_law) else (if m = 87 then cX7_endAct else cL_law)) else (if m < 89 then (if m = 88 then cX7_record else cL_law) else (if m = 89 then cX7_runWithRule else cL_law))))) else (if m < 96 then (if m < 93 then (if m < 91 then (if m = 90 then cX7_isTicket else cL_law) else (if m < 92 then (if m = 91 then cX7_isDraw else cL_law) else (if m = 92 then cX7_isWindow else cL_law))) else (if m < 94 then (if m = 93 then cX7_areTicks else cL_law) else (if m < 95 then (if m = 94 then cX7_isSetting else cL_law) else (if m = 95 then cJ6_bitCount_0f7a4 else cL_law)))) else (if m < 99 then (if m < 97 then (if m = 96 then cL_cell else cL_law) else (if m < 98 then (if m = 97 then cL_low else cL_law) else (if m = 98 then cL_tell else cL_law))) else (if m < 101 then (if m < 100 then (if m = 99 then cL_same else cL_law) else (if m = 100 then cL_accounts else cL_law)) else (if m < 102 then (if m = 101 then cL_tickets else cL_law) else (if m = 102 then cL_act else cL_law)))))))
def mL (m : Nat) : Nat := if m < 51 then (if m < 25 then (if m < 12 then (if m < 6 then (if m < 3 then (if m < 1 then (if m = 0 then 18 else 18) else (if m < 2 then (if m = 1 then 2 else 18) else (if m = 2 then 2 else 18))) else (if m < 4 then (if m = 3 then 3 else 18) else (if m < 5 then (if m = 4 then 2 else 18) else (if m = 5 then 2 else 18)))) else (if m < 9 then (if m < 7 then (if m = 6 then 2 else 18) else (if m < 8 then (if m = 7 then 3 else 18) else (if m = 8 then 3 else 18))) else (if m < 10 then (if m = 9 then 3 else 18) else (if m < 11 then (if m = 10 then 4 else 18) else (if m = 11 then 4 else 18))))) else (if m < 18 then (if m < 15 then (if m < 13 then (if m = 12 then 3 else 18) else (if m < 14 then (if m = 13 then 2 else 18) else (if m = 14 then 5 else 18))) else (if m < 16 then (if m = 15 then 3 else 18) else (if m < 17 then (if m = 16 then 2 else 18) else (if m = 17 then 2 else 18)))) else (if m < 21 then (if m < 19 then (if m = 18 then 2 else 18) else (if m < 20 then (if m = 19 then 4 else 18) else (if m = 20 then 2 else 18))) else (if m < 23 then (if m < 22 then (if m = 21 then 3 else 18) else (if m = 22 then 6 else 18)) else (if m < 24 then (if m = 23 then 2 else 18) else (if m = 24 then 3 else 18)))))) else (if m < 38 then (if m < 31 then (if m < 28 then (if m < 26 then (if m = 25 then 3 else 18) else (if m < 27 then (if m = 26 then 3 else 18) else (if m = 27 then 4 else 18))) else (if m < 29 then (if m = 28 then 4 else 18) else (if m < 30 then (if m = 29 then 5 else 18) else (if m = 30 then 3 else 18)))) else (if m < 34 then (if m < 32 then (if m = 31 then 4 else 18) else (if m < 33 then (if m = 32 then 3 else 18) else (if m = 33 then 3 else 18))) else (if m < 36 then (if m < 35 then (if m = 34 then 4 else 18) else (if m = 35 then 3 else 18)) else (if m < 37 then (if m = 36 then 4 else 18) else (if m = 37 then 5 else 18))))) else (if m < 44 then (if m < 41 then (if m < 39 then (if m = 38 then 2 else 18) else (if m < 40 then (if m = 39 then 4 else 18) else (if m = 40 then 1 else 18))) else (if m < 42 then (if m = 41 then 3 else 18) else (if m < 43 then (if m = 42 then 2 else 18) else (if m = 43 then 2 else 18)))) else (if m < 47 then (if m < 45 then (if m = 44 then 3 else 18) else (if m < 46 then (if m = 45 then 3 else 18) else (if m = 46 then 3 else 18))) else (if m < 49 then (if m < 48 then (if m = 47 then 2 else 18) else (if m = 48 then 3 else 18)) else (if m < 50 then (if m = 49 then 4 else 18) else (if m = 50 then 5 else 18))))))) else (if m < 77 then (if m < 64 then (if m < 57 then (if m < 54 then (if m < 52 then (if m = 51 then 2 else 18) else (if m < 53 then (if m = 52 then 2 else 18) else (if m = 53 then 4 else 18))) else (if m < 55 then (if m = 54 then 6 else 18) else (if m < 56 then (if m = 55 then 7 else 18) else (if m = 56 then 5 else 18)))) else (if m < 60 then (if m < 58 then (if m = 57 then 2 else 18) else (if m < 59 then (if m = 58 then 3 else 18) else (if m = 59 then 3 else 18))) else (if m < 62 then (if m < 61 then (if m = 60 then 2 else 18) else (if m = 61 then 3 else 18)) else (if m < 63 then (if m = 62 then 3 else 18) else (if m = 63 then 1 else 18))))) else (if m < 70 then (if m < 67 then (if m < 65 then (if m = 64 then 1 else 18) else (if m < 66 then (if m = 65 then 1 else 18) else (if m = 66 then 1 else 18))) else (if m < 68 then (if m = 67 then 3 else 18) else (if m < 69 then (if m = 68 then 5 else 18) else (if m = 69 then 3 else 18)))) else (if m < 73 then (if m < 71 then (if m = 70 then 2 else 18) else (if m < 72 then (if m = 71 then 2 else 18) else (if m = 72 then 3 else 18))) else (if m < 75 then (if m < 74 then (if m = 73 then 2 else 18) else (if m = 74 then 2 else 18)) else (if m < 76 then (if m = 75 then 3 else 18) else (if m = 76 then 2 else 18)))))) else (if m < 90 then (if m < 83 then (if m < 80 then (if m < 78 then (if m = 77 then 3 else 18) else (if m < 79 then (if m = 78 then 3 else 18) else (if m = 79 then 3 else 18))) else (if m < 81 then (if m = 80 then 2 else 18) else (if m < 82 then (if m = 81 then 2 else 18) else (if m = 82 then 3 else 18)))) else (if m < 86 then (if m < 84 then (if m = 83 then 5 else 18) else (if m < 85 then (if m = 84 then 6 else 18) else (if m = 85 then 1 else 18))) else (if m < 88 then (if m < 87 then (if m = 86 then 1 else 18) else (if m = 87 then 2 else 18)) else (if m < 89 then (if m = 88 then 3 else 18) else (if m = 89 then 3 else 18))))) else (if m < 96 then (if m < 93 then (if m < 91 then (if m = 90 then 1 else 18) else (if m < 92 then (if m = 91 then 1 else 18) else (if m = 92 then 1 else 18))) else (if m < 94 then (if m = 93 then 1 else 18) else (if m < 95 then (if m = 94 then 2 else 18) else (if m = 95 then 1 else 18)))) else (if m < 99 then (if m < 97 then (if m = 96 then 2 else 18) else (if m < 98 then (if m = 97 then 2 else 18) else (if m = 98 then 4 else 18))) else (if m < 101 then (if m < 100 then (if m = 99 then 3 else 18) else (if m = 100 then 8 else 18)) else (if m < 102 then (if m = 101 then 7 else 18) else (if m = 102 then 5 else 18)))))))
def mR (m : Nat) : Option FieldType := if m < 51 then (if m < 25 then (if m < 12 then (if m < 6 then (if m < 3 then (if m < 1 then (if m = 0 then some .boolean else some .boolean) else (if m < 2 then (if m = 1 then none else some .boolean) else (if m = 2 then none else some .boolean))) else (if m < 4 then (if m = 3 then some .int else some .boolean) else (if m < 5 then (if m = 4 then none else some .boolean) else (if m = 5 then some .boolean else some .boolean)))) else (if m < 9 then (if m < 7 then (if m = 6 then some .int else some .boolean) else (if m < 8 then (if m = 7 then some .int else some .boolean) else (if m = 8 then none else some .boolean))) else (if m < 10 then (if m = 9 then some .int else some .boolean) else (if m < 11 then (if m = 10 then some .int else some .boolean) else (if m = 11 then some .int else some .boolean))))) else (if m < 18 then (if m < 15 then (if m < 13 then (if m = 12 then some .int else some .boolean) else (if m < 14 then (if m = 13 then none else some .boolean) else (if m = 14 then none else some .boolean))) else (if m < 16 then (if m = 15 then some .boolean else some .boolean) else (if m < 17 then (if m = 16 then some .int else some .boolean) else (if m = 17 then some .int else some .boolean)))) else (if m < 21 then (if m < 19 then (if m = 18 then some .int else some .boolean) else (if m < 20 then (if m = 19 then none else some .boolean) else (if m = 20 then none else some .boolean))) else (if m < 23 then (if m < 22 then (if m = 21 then some .int else some .boolean) else (if m = 22 then some .int else some .boolean)) else (if m < 24 then (if m = 23 then some .int else some .boolean) else (if m = 24 then some .int else some .boolean)))))) else (if m < 38 then (if m < 31 then (if m < 28 then (if m < 26 then (if m = 25 then some .int else some .boolean) else (if m < 27 then (if m = 26 then some .int else some .boolean) else (if m = 27 then some .int else some .boolean))) else (if m < 29 then (if m = 28 then none else some .boolean) else (if m < 30 then (if m = 29 then none else some .boolean) else (if m = 30 then none else some .boolean)))) else (if m < 34 then (if m < 32 then (if m = 31 then none else some .boolean) else (if m < 33 then (if m = 32 then none else some .boolean) else (if m = 33 then none else some .boolean))) else (if m < 36 then (if m < 35 then (if m = 34 then none else some .boolean) else (if m = 35 then some .int else some .boolean)) else (if m < 37 then (if m = 36 then none else some .boolean) else (if m = 37 then none else some .boolean))))) else (if m < 44 then (if m < 41 then (if m < 39 then (if m = 38 then some .int else some .boolean) else (if m < 40 then (if m = 39 then some .int else some .boolean) else (if m = 40 then some .int else some .boolean))) else (if m < 42 then (if m = 41 then some .int else some .boolean) else (if m < 43 then (if m = 42 then some .int else some .boolean) else (if m = 43 then none else some .boolean)))) else (if m < 47 then (if m < 45 then (if m = 44 then some .boolean else some .boolean) else (if m < 46 then (if m = 45 then none else some .boolean) else (if m = 46 then none else some .boolean))) else (if m < 49 then (if m < 48 then (if m = 47 then some .int else some .boolean) else (if m = 48 then some .int else some .boolean)) else (if m < 50 then (if m = 49 then some .int else some .boolean) else (if m = 50 then none else some .boolean))))))) else (if m < 77 then (if m < 64 then (if m < 57 then (if m < 54 then (if m < 52 then (if m = 51 then some .int else some .boolean) else (if m < 53 then (if m = 52 then none else some .boolean) else (if m = 53 then some .int else some .boolean))) else (if m < 55 then (if m = 54 then some .int else some .boolean) else (if m < 56 then (if m = 55 then some .int else some .boolean) else (if m = 56 then some .int else some .boolean)))) else (if m < 60 then (if m < 58 then (if m = 57 then some .boolean else some .boolean) else (if m < 59 then (if m = 58 then some .boolean else some .boolean) else (if m = 59 then none else some .boolean))) else (if m < 62 then (if m < 61 then (if m = 60 then none else some .boolean) else (if m = 61 then none else some .boolean)) else (if m < 63 then (if m = 62 then none else some .boolean) else (if m = 63 then some .int else some .boolean))))) else (if m < 70 then (if m < 67 then (if m < 65 then (if m = 64 then some .int else some .boolean) else (if m < 66 then (if m = 65 then some .int else some .boolean) else (if m = 66 then some .int else some .boolean))) else (if m < 68 then (if m = 67 then some .int else some .boolean) else (if m < 69 then (if m = 68 then some .int else some .boolean) else (if m = 69 then some .int else some .boolean)))) else (if m < 73 then (if m < 71 then (if m = 70 then some .int else some .boolean) else (if m < 72 then (if m = 71 then some .int else some .boolean) else (if m = 72 then some .int else some .boolean))) else (if m < 75 then (if m < 74 then (if m = 73 then some .int else some .boolean) else (if m = 74 then some .int else some .boolean)) else (if m < 76 then (if m = 75 then some .int else some .boolean) else (if m = 76 then some .int else some .boolean)))))) else (if m < 90 then (if m < 83 then (if m < 80 then (if m < 78 then (if m = 77 then some .int else some .boolean) else (if m < 79 then (if m = 78 then some .int else some .boolean) else (if m = 79 then some .int else some .boolean))) else (if m < 81 then (if m = 80 then some .int else some .boolean) else (if m < 82 then (if m = 81 then some .int else some .boolean) else (if m = 82 then some .int else some .boolean)))) else (if m < 86 then (if m < 84 then (if m = 83 then some .int else some .boolean) else (if m < 85 then (if m = 84 then some .int else some .boolean) else (if m = 85 then some .int else some .boolean))) else (if m < 88 then (if m < 87 then (if m = 86 then some (.object "TicketWindows$Office") else some .boolean) else (if m = 87 then some .int else some .boolean)) else (if m < 89 then (if m = 88 then none else some .boolean) else (if m = 89 then some (.object "TicketWindows$Office") else some .boolean))))) else (if m < 96 then (if m < 93 then (if m < 91 then (if m = 90 then some .boolean else some .boolean) else (if m < 92 then (if m = 91 then some .boolean else some .boolean) else (if m = 92 then some .boolean else some .boolean))) else (if m < 94 then (if m = 93 then some .boolean else some .boolean) else (if m < 95 then (if m = 94 then some .boolean else some .boolean) else (if m = 95 then some .int else some .boolean)))) else (if m < 99 then (if m < 97 then (if m = 96 then some .int else some .boolean) else (if m < 98 then (if m = 97 then some .int else some .boolean) else (if m = 98 then some (.array .int) else some .boolean))) else (if m < 101 then (if m < 100 then (if m = 99 then some .boolean else some .boolean) else (if m = 100 then some .boolean else some .boolean)) else (if m < 102 then (if m = 101 then some .boolean else some .boolean) else (if m = 102 then some .int else some .boolean)))))))
def mF (m : Nat) : Nat := if m < 51 then (if m < 25 then (if m < 12 then (if m < 6 then (if m < 3 then (if m < 1 then (if m = 0 then 9 else 9) else (if m < 2 then (if m = 1 then 1 else 9) else (if m = 2 then 0 else 9))) else (if m < 4 then (if m = 3 then 0 else 9) else (if m < 5 then (if m = 4 then 1 else 9) else (if m = 5 then 0 else 9)))) else (if m < 9 then (if m < 7 then (if m = 6 then 0 else 9) else (if m < 8 then (if m = 7 then 0 else 9) else (if m = 8 then 0 else 9))) else (if m < 10 then (if m = 9 then 0 else 9) else (if m < 11 then (if m = 10 then 0 else 9) else (if m = 11 then 1 else 9))))) else (if m < 18 then (if m < 15 then (if m < 13 then (if m = 12 then 2 else 9) else (if m < 14 then (if m = 13 then 1 else 9) else (if m = 14 then 0 else 9))) else (if m < 16 then (if m = 15 then 0 else 9) else (if m < 17 then (if m = 16 then 0 else 9) else (if m = 17 then 0 else 9)))) else (if m < 21 then (if m < 19 then (if m = 18 then 0 else 9) else (if m < 20 then (if m = 19 then 0 else 9) else (if m = 20 then 2 else 9))) else (if m < 23 then (if m < 22 then (if m = 21 then 1 else 9) else (if m = 22 then 1 else 9)) else (if m < 24 then (if m = 23 then 0 else 9) else (if m = 24 then 1 else 9)))))) else (if m < 38 then (if m < 31 then (if m < 28 then (if m < 26 then (if m = 25 then 1 else 9) else (if m < 27 then (if m = 26 then 6 else 9) else (if m = 27 then 1 else 9))) else (if m < 29 then (if m = 28 then 5 else 9) else (if m < 30 then (if m = 29 then 4 else 9) else (if m = 30 then 1 else 9)))) else (if m < 34 then (if m < 32 then (if m = 31 then 1 else 9) else (if m < 33 then (if m = 32 then 3 else 9) else (if m = 33 then 1 else 9))) else (if m < 36 then (if m < 35 then (if m = 34 then 3 else 9) else (if m = 35 then 2 else 9)) else (if m < 37 then (if m = 36 then 2 else 9) else (if m = 37 then 2 else 9))))) else (if m < 44 then (if m < 41 then (if m < 39 then (if m = 38 then 1 else 9) else (if m < 40 then (if m = 39 then 2 else 9) else (if m = 40 then 2 else 9))) else (if m < 42 then (if m = 41 then 2 else 9) else (if m < 43 then (if m = 42 then 2 else 9) else (if m = 43 then 1 else 9)))) else (if m < 47 then (if m < 45 then (if m = 44 then 0 else 9) else (if m < 46 then (if m = 45 then 0 else 9) else (if m = 46 then 0 else 9))) else (if m < 49 then (if m < 48 then (if m = 47 then 0 else 9) else (if m = 48 then 0 else 9)) else (if m < 50 then (if m = 49 then 0 else 9) else (if m = 50 then 0 else 9))))))) else (if m < 77 then (if m < 64 then (if m < 57 then (if m < 54 then (if m < 52 then (if m = 51 then 0 else 9) else (if m < 53 then (if m = 52 then 1 else 9) else (if m = 53 then 0 else 9))) else (if m < 55 then (if m = 54 then 0 else 9) else (if m < 56 then (if m = 55 then 0 else 9) else (if m = 56 then 0 else 9)))) else (if m < 60 then (if m < 58 then (if m = 57 then 0 else 9) else (if m < 59 then (if m = 58 then 0 else 9) else (if m = 59 then 0 else 9))) else (if m < 62 then (if m < 61 then (if m = 60 then 0 else 9) else (if m = 61 then 0 else 9)) else (if m < 63 then (if m = 62 then 0 else 9) else (if m = 63 then 1 else 9))))) else (if m < 70 then (if m < 67 then (if m < 65 then (if m = 64 then 1 else 9) else (if m < 66 then (if m = 65 then 1 else 9) else (if m = 66 then 1 else 9))) else (if m < 68 then (if m = 67 then 0 else 9) else (if m < 69 then (if m = 68 then 1 else 9) else (if m = 69 then 1 else 9)))) else (if m < 73 then (if m < 71 then (if m = 70 then 4 else 9) else (if m < 72 then (if m = 71 then 4 else 9) else (if m = 72 then 4 else 9))) else (if m < 75 then (if m < 74 then (if m = 73 then 4 else 9) else (if m = 74 then 7 else 9)) else (if m < 76 then (if m = 75 then 4 else 9) else (if m = 76 then 0 else 9)))))) else (if m < 90 then (if m < 83 then (if m < 80 then (if m < 78 then (if m = 77 then 3 else 9) else (if m < 79 then (if m = 78 then 3 else 9) else (if m = 79 then 2 else 9))) else (if m < 81 then (if m = 80 then 3 else 9) else (if m < 82 then (if m = 81 then 3 else 9) else (if m = 82 then 3 else 9)))) else (if m < 86 then (if m < 84 then (if m = 83 then 7 else 9) else (if m < 85 then (if m = 84 then 7 else 9) else (if m = 85 then 2 else 9))) else (if m < 88 then (if m < 87 then (if m = 86 then 3 else 9) else (if m = 87 then 1 else 9)) else (if m < 89 then (if m = 88 then 0 else 9) else (if m = 89 then 6 else 9))))) else (if m < 96 then (if m < 93 then (if m < 91 then (if m = 90 then 0 else 9) else (if m < 92 then (if m = 91 then 0 else 9) else (if m = 92 then 0 else 9))) else (if m < 94 then (if m = 93 then 0 else 9) else (if m < 95 then (if m = 94 then 0 else 9) else (if m = 95 then 0 else 9)))) else (if m < 99 then (if m < 97 then (if m = 96 then 0 else 9) else (if m < 98 then (if m = 97 then 0 else 9) else (if m = 98 then 4 else 9))) else (if m < 101 then (if m < 100 then (if m = 99 then 0 else 9) else (if m = 100 then 4 else 9)) else (if m < 102 then (if m = 101 then 4 else 9) else (if m = 102 then 8 else 9)))))))
def mLo (m : Nat) : Nat := if m < 51 then (if m < 25 then (if m < 12 then (if m < 6 then (if m < 3 then (if m < 1 then (if m = 0 then 203 else 203) else (if m < 2 then (if m = 1 then 30 else 203) else (if m = 2 then 0 else 203))) else (if m < 4 then (if m = 3 then 0 else 203) else (if m < 5 then (if m = 4 then 30 else 203) else (if m = 5 then 0 else 203)))) else (if m < 9 then (if m < 7 then (if m = 6 then 0 else 203) else (if m < 8 then (if m = 7 then 0 else 203) else (if m = 8 then 0 else 203))) else (if m < 10 then (if m = 9 then 0 else 203) else (if m < 11 then (if m = 10 then 0 else 203) else (if m = 11 then 23 else 203))))) else (if m < 18 then (if m < 15 then (if m < 13 then (if m = 12 then 46 else 203) else (if m < 14 then (if m = 13 then 30 else 203) else (if m = 14 then 0 else 203))) else (if m < 16 then (if m = 15 then 0 else 203) else (if m < 17 then (if m = 16 then 0 else 203) else (if m = 17 then 0 else 203)))) else (if m < 21 then (if m < 19 then (if m = 18 then 0 else 203) else (if m < 20 then (if m = 19 then 0 else 203) else (if m = 20 then 51 else 203))) else (if m < 23 then (if m < 22 then (if m = 21 then 22 else 203) else (if m = 22 then 22 else 203)) else (if m < 24 then (if m = 23 then 0 else 203) else (if m = 24 then 23 else 203)))))) else (if m < 38 then (if m < 31 then (if m < 28 then (if m < 26 then (if m = 25 then 26 else 203) else (if m < 27 then (if m = 26 then 136 else 203) else (if m = 27 then 21 else 203))) else (if m < 29 then (if m = 28 then 113 else 203) else (if m < 30 then (if m = 29 then 89 else 203) else (if m = 30 then 22 else 203)))) else (if m < 34 then (if m < 32 then (if m = 31 then 24 else 203) else (if m < 33 then (if m = 32 then 67 else 203) else (if m = 33 then 22 else 203))) else (if m < 36 then (if m < 35 then (if m = 34 then 67 else 203) else (if m = 35 then 44 else 203)) else (if m < 37 then (if m = 36 then 44 else 203) else (if m = 37 then 44 else 203))))) else (if m < 44 then (if m < 41 then (if m < 39 then (if m = 38 then 23 else 203) else (if m < 40 then (if m = 39 then 44 else 203) else (if m = 40 then 42 else 203))) else (if m < 42 then (if m = 41 then 44 else 203) else (if m < 43 then (if m = 42 then 42 else 203) else (if m = 43 then 30 else 203)))) else (if m < 47 then (if m < 45 then (if m = 44 then 0 else 203) else (if m < 46 then (if m = 45 then 0 else 203) else (if m = 46 then 0 else 203))) else (if m < 49 then (if m < 48 then (if m = 47 then 0 else 203) else (if m = 48 then 0 else 203)) else (if m < 50 then (if m = 49 then 0 else 203) else (if m = 50 then 0 else 203))))))) else (if m < 77 then (if m < 64 then (if m < 57 then (if m < 54 then (if m < 52 then (if m = 51 then 0 else 203) else (if m < 53 then (if m = 52 then 30 else 203) else (if m = 53 then 0 else 203))) else (if m < 55 then (if m = 54 then 0 else 203) else (if m < 56 then (if m = 55 then 0 else 203) else (if m = 56 then 0 else 203)))) else (if m < 60 then (if m < 58 then (if m = 57 then 0 else 203) else (if m < 59 then (if m = 58 then 0 else 203) else (if m = 59 then 0 else 203))) else (if m < 62 then (if m < 61 then (if m = 60 then 0 else 203) else (if m = 61 then 0 else 203)) else (if m < 63 then (if m = 62 then 0 else 203) else (if m = 63 then 22 else 203))))) else (if m < 70 then (if m < 67 then (if m < 65 then (if m = 64 then 22 else 203) else (if m < 66 then (if m = 65 then 22 else 203) else (if m = 66 then 22 else 203))) else (if m < 68 then (if m = 67 then 0 else 203) else (if m < 69 then (if m = 68 then 21 else 203) else (if m = 69 then 21 else 203)))) else (if m < 73 then (if m < 71 then (if m = 70 then 92 else 203) else (if m < 72 then (if m = 71 then 92 else 203) else (if m = 72 then 92 else 203))) else (if m < 75 then (if m < 74 then (if m = 73 then 92 else 203) else (if m = 74 then 158 else 203)) else (if m < 76 then (if m = 75 then 92 else 203) else (if m = 76 then 0 else 203)))))) else (if m < 90 then (if m < 83 then (if m < 80 then (if m < 78 then (if m = 77 then 66 else 203) else (if m < 79 then (if m = 78 then 68 else 203) else (if m = 79 then 43 else 203))) else (if m < 81 then (if m = 80 then 63 else 203) else (if m < 82 then (if m = 81 then 67 else 203) else (if m = 82 then 66 else 203)))) else (if m < 86 then (if m < 84 then (if m = 83 then 158 else 203) else (if m < 85 then (if m = 84 then 158 else 203) else (if m = 85 then 45 else 203))) else (if m < 88 then (if m < 87 then (if m = 86 then 72 else 203) else (if m = 87 then 22 else 203)) else (if m < 89 then (if m = 88 then 0 else 203) else (if m = 89 then 136 else 203))))) else (if m < 96 then (if m < 93 then (if m < 91 then (if m = 90 then 0 else 203) else (if m < 92 then (if m = 91 then 0 else 203) else (if m = 92 then 0 else 203))) else (if m < 94 then (if m = 93 then 0 else 203) else (if m < 95 then (if m = 94 then 0 else 203) else (if m = 95 then 0 else 203)))) else (if m < 99 then (if m < 97 then (if m = 96 then 0 else 203) else (if m < 98 then (if m = 97 then 0 else 203) else (if m = 98 then 90 else 203))) else (if m < 101 then (if m < 100 then (if m = 99 then 0 else 203) else (if m = 100 then 90 else 203)) else (if m < 102 then (if m = 101 then 88 else 203) else (if m = 102 then 179 else 203)))))))
/-- places of the words: code, instanceMethod or static, selects, initialized -/
def mP (m : Nat) : Nat × Nat × Nat × Nat := if m < 51 then (if m < 25 then (if m < 12 then (if m < 6 then (if m < 3 then (if m < 1 then (if m = 0 then (0, 0, 0, 0) else (0, 0, 0, 0)) else (if m < 2 then (if m = 1 then (267, 265, 266, 21) else (0, 0, 0, 0)) else (if m = 2 then (364, 362, 363, 21) else (0, 0, 0, 0)))) else (if m < 4 then (if m = 3 then (460, 458, 459, 21) else (0, 0, 0, 0)) else (if m < 5 then (if m = 4 then (252, 250, 251, 18) else (0, 0, 0, 0)) else (if m = 5 then (279, 277, 278, 18) else (0, 0, 0, 0))))) else (if m < 9 then (if m < 7 then (if m = 6 then (291, 289, 290, 18) else (0, 0, 0, 0)) else (if m < 8 then (if m = 7 then (497, 495, 496, 18) else (0, 0, 0, 0)) else (if m = 8 then (633, 631, 632, 18) else (0, 0, 0, 0)))) else (if m < 10 then (if m = 9 then (578, 577, 12, 18) else (0, 0, 0, 0)) else (if m < 11 then (if m = 10 then (392, 390, 391, 18) else (0, 0, 0, 0)) else (if m = 11 then (582, 581, 13, 18) else (0, 0, 0, 0)))))) else (if m < 18 then (if m < 15 then (if m < 13 then (if m = 12 then (572, 570, 571, 18) else (0, 0, 0, 0)) else (if m < 14 then (if m = 13 then (262, 260, 261, 20) else (0, 0, 0, 0)) else (if m = 14 then (372, 370, 371, 20) else (0, 0, 0, 0)))) else (if m < 16 then (if m = 15 then (344, 342, 343, 20) else (0, 0, 0, 0)) else (if m < 17 then (if m = 16 then (356, 354, 355, 20) else (0, 0, 0, 0)) else (if m = 17 then (348, 346, 347, 20) else (0, 0, 0, 0))))) else (if m < 21 then (if m < 19 then (if m = 18 then (352, 350, 351, 20) else (0, 0, 0, 0)) else (if m < 20 then (if m = 19 then (428, 426, 427, 20) else (0, 0, 0, 0)) else (if m = 20 then (240, 238, 239, 16) else (0, 0, 0, 0)))) else (if m < 23 then (if m < 22 then (if m = 21 then (272, 270, 271, 16) else (0, 0, 0, 0)) else (if m = 22 then (624, 622, 623, 16) else (0, 0, 0, 0))) else (if m < 24 then (if m = 23 then (629, 628, 0, 16) else (0, 0, 0, 0)) else (if m = 24 then (307, 305, 306, 16) else (0, 0, 0, 0))))))) else (if m < 38 then (if m < 31 then (if m < 28 then (if m < 26 then (if m = 25 then (641, 639, 640, 16) else (0, 0, 0, 0)) else (if m < 27 then (if m = 26 then (322, 320, 321, 16) else (0, 0, 0, 0)) else (if m = 27 then (653, 651, 652, 16) else (0, 0, 0, 0)))) else (if m < 29 then (if m = 28 then (336, 334, 335, 16) else (0, 0, 0, 0)) else (if m < 30 then (if m = 29 then (340, 339, 3, 16) else (0, 0, 0, 0)) else (if m = 30 then (360, 359, 4, 16) else (0, 0, 0, 0))))) else (if m < 34 then (if m < 32 then (if m = 31 then (368, 367, 5, 16) else (0, 0, 0, 0)) else (if m < 33 then (if m = 32 then (376, 375, 6, 16) else (0, 0, 0, 0)) else (if m = 33 then (420, 419, 8, 16) else (0, 0, 0, 0)))) else (if m < 36 then (if m < 35 then (if m = 34 then (432, 431, 9, 16) else (0, 0, 0, 0)) else (if m = 35 then (448, 446, 447, 16) else (0, 0, 0, 0))) else (if m < 37 then (if m = 36 then (380, 379, 7, 16) else (0, 0, 0, 0)) else (if m = 37 then (456, 455, 10, 16) else (0, 0, 0, 0)))))) else (if m < 44 then (if m < 41 then (if m < 39 then (if m = 38 then (384, 382, 383, 16) else (0, 0, 0, 0)) else (if m < 40 then (if m = 39 then (591, 589, 590, 16) else (0, 0, 0, 0)) else (if m = 40 then (531, 529, 530, 16) else (0, 0, 0, 0)))) else (if m < 42 then (if m = 41 then (481, 479, 480, 16) else (0, 0, 0, 0)) else (if m < 43 then (if m = 42 then (493, 491, 492, 16) else (0, 0, 0, 0)) else (if m = 43 then (247, 245, 246, 17) else (0, 0, 0, 0))))) else (if m < 47 then (if m < 45 then (if m = 44 then (283, 281, 282, 17) else (0, 0, 0, 0)) else (if m < 46 then (if m = 45 then (287, 285, 286, 17) else (0, 0, 0, 0)) else (if m = 46 then (416, 414, 415, 17) else (0, 0, 0, 0)))) else (if m < 49 then (if m < 48 then (if m = 47 then (388, 386, 387, 17) else (0, 0, 0, 0)) else (if m = 48 then (402, 400, 401, 17) else (0, 0, 0, 0))) else (if m < 50 then (if m = 49 then (556, 554, 555, 17) else (0, 0, 0, 0)) else (if m = 50 then (412, 410, 411, 17) else (0, 0, 0, 0)))))))) else (if m < 77 then (if m < 64 then (if m < 57 then (if m < 54 then (if m < 52 then (if m = 51 then (464, 462, 463, 17) else (0, 0, 0, 0)) else (if m < 53 then (if m = 52 then (257, 255, 256, 19) else (0, 0, 0, 0)) else (if m = 53 then (314, 312, 313, 19) else (0, 0, 0, 0)))) else (if m < 55 then (if m = 54 then (444, 442, 443, 19) else (0, 0, 0, 0)) else (if m < 56 then (if m = 55 then (645, 643, 644, 19) else (0, 0, 0, 0)) else (if m = 56 then (485, 483, 484, 19) else (0, 0, 0, 0))))) else (if m < 60 then (if m < 58 then (if m = 57 then (440, 438, 439, 19) else (0, 0, 0, 0)) else (if m < 59 then (if m = 58 then (436, 434, 435, 19) else (0, 0, 0, 0)) else (if m = 59 then (452, 450, 451, 19) else (0, 0, 0, 0)))) else (if m < 62 then (if m < 61 then (if m = 60 then (468, 466, 467, 19) else (0, 0, 0, 0)) else (if m = 61 then (424, 422, 423, 19) else (0, 0, 0, 0))) else (if m < 63 then (if m = 62 then (398, 396, 397, 19) else (0, 0, 0, 0)) else (if m = 63 then (501, 499, 500, 19) else (0, 0, 0, 0)))))) else (if m < 70 then (if m < 67 then (if m < 65 then (if m = 64 then (329, 327, 328, 19) else (0, 0, 0, 0)) else (if m < 66 then (if m = 65 then (527, 525, 526, 19) else (0, 0, 0, 0)) else (if m = 66 then (505, 503, 504, 19) else (0, 0, 0, 0)))) else (if m < 68 then (if m = 67 then (332, 331, 0, 19) else (0, 0, 0, 0)) else (if m < 69 then (if m = 68 then (599, 597, 598, 19) else (0, 0, 0, 0)) else (if m = 69 then (560, 558, 559, 19) else (0, 0, 0, 0))))) else (if m < 73 then (if m < 71 then (if m = 70 then (232, 230, 231, 15) else (0, 0, 0, 0)) else (if m < 72 then (if m = 71 then (620, 618, 619, 15) else (0, 0, 0, 0)) else (if m = 72 then (303, 301, 302, 15) else (0, 0, 0, 0)))) else (if m < 75 then (if m < 74 then (if m = 73 then (637, 635, 636, 15) else (0, 0, 0, 0)) else (if m = 74 then (318, 316, 317, 15) else (0, 0, 0, 0))) else (if m < 76 then (if m = 75 then (649, 647, 648, 15) else (0, 0, 0, 0)) else (if m = 76 then (472, 470, 471, 15) else (0, 0, 0, 0))))))) else (if m < 90 then (if m < 83 then (if m < 80 then (if m < 78 then (if m = 77 then (476, 474, 475, 15) else (0, 0, 0, 0)) else (if m < 79 then (if m = 78 then (565, 563, 564, 15) else (0, 0, 0, 0)) else (if m = 79 then (551, 549, 550, 15) else (0, 0, 0, 0)))) else (if m < 81 then (if m = 80 then (489, 487, 488, 15) else (0, 0, 0, 0)) else (if m < 82 then (if m = 81 then (587, 585, 586, 15) else (0, 0, 0, 0)) else (if m = 82 then (612, 610, 611, 15) else (0, 0, 0, 0))))) else (if m < 86 then (if m < 84 then (if m = 83 then (509, 507, 508, 15) else (0, 0, 0, 0)) else (if m < 85 then (if m = 84 then (536, 534, 535, 15) else (0, 0, 0, 0)) else (if m = 85 then (595, 593, 594, 15) else (0, 0, 0, 0)))) else (if m < 88 then (if m < 87 then (if m = 86 then (236, 235, 0, 15) else (0, 0, 0, 0)) else (if m = 87 then (295, 294, 1, 15) else (0, 0, 0, 0))) else (if m < 89 then (if m = 88 then (299, 298, 2, 15) else (0, 0, 0, 0)) else (if m = 89 then (521, 520, 11, 15) else (0, 0, 0, 0)))))) else (if m < 96 then (if m < 93 then (if m < 91 then (if m = 90 then (275, 274, 0, 15) else (0, 0, 0, 0)) else (if m < 92 then (if m = 91 then (568, 567, 0, 15) else (0, 0, 0, 0)) else (if m = 92 then (310, 309, 0, 15) else (0, 0, 0, 0)))) else (if m < 94 then (if m = 93 then (325, 324, 0, 15) else (0, 0, 0, 0)) else (if m < 95 then (if m = 94 then (512, 511, 0, 15) else (0, 0, 0, 0)) else (if m = 95 then (405, 404, 0, 24) else (0, 0, 0, 0))))) else (if m < 99 then (if m < 97 then (if m = 96 then (539, 538, 0, 14) else (0, 0, 0, 0)) else (if m < 98 then (if m = 97 then (543, 542, 0, 14) else (0, 0, 0, 0)) else (if m = 98 then (547, 546, 0, 14) else (0, 0, 0, 0)))) else (if m < 101 then (if m < 100 then (if m = 99 then (602, 601, 0, 14) else (0, 0, 0, 0)) else (if m = 100 then (605, 604, 0, 14) else (0, 0, 0, 0))) else (if m < 102 then (if m = 101 then (608, 607, 0, 14) else (0, 0, 0, 0)) else (if m = 102 then (616, 615, 0, 14) else (0, 0, 0, 0))))))))
/-- whether static -/
def mS (m : Nat) : Bool := if m < 51 then (if m < 25 then (if m < 12 then (if m < 6 then (if m < 3 then (if m < 1 then (if m = 0 then false else false) else (if m < 2 then (if m = 1 then false else false) else (if m = 2 then false else false))) else (if m < 4 then (if m = 3 then false else false) else (if m < 5 then (if m = 4 then false else false) else (if m = 5 then false else false)))) else (if m < 9 then (if m < 7 then (if m = 6 then false else false) else (if m < 8 then (if m = 7 then false else false) else (if m = 8 then false else false))) else (if m < 10 then (if m = 9 then false else false) else (if m < 11 then (if m = 10 then false else false) else (if m = 11 then false else false))))) else (if m < 18 then (if m < 15 then (if m < 13 then (if m = 12 then false else false) else (if m < 14 then (if m = 13 then false else false) else (if m = 14 then false else false))) else (if m < 16 then (if m = 15 then false else false) else (if m < 17 then (if m = 16 then false else false) else (if m = 17 then false else false)))) else (if m < 21 then (if m < 19 then (if m = 18 then false else false) else (if m < 20 then (if m = 19 then false else false) else (if m = 20 then false else false))) else (if m < 23 then (if m < 22 then (if m = 21 then false else false) else (if m = 22 then false else false)) else (if m < 24 then (if m = 23 then true else false) else (if m = 24 then false else false)))))) else (if m < 38 then (if m < 31 then (if m < 28 then (if m < 26 then (if m = 25 then false else false) else (if m < 27 then (if m = 26 then false else false) else (if m = 27 then false else false))) else (if m < 29 then (if m = 28 then false else false) else (if m < 30 then (if m = 29 then false else false) else (if m = 30 then false else false)))) else (if m < 34 then (if m < 32 then (if m = 31 then false else false) else (if m < 33 then (if m = 32 then false else false) else (if m = 33 then false else false))) else (if m < 36 then (if m < 35 then (if m = 34 then false else false) else (if m = 35 then false else false)) else (if m < 37 then (if m = 36 then false else false) else (if m = 37 then false else false))))) else (if m < 44 then (if m < 41 then (if m < 39 then (if m = 38 then false else false) else (if m < 40 then (if m = 39 then false else false) else (if m = 40 then false else false))) else (if m < 42 then (if m = 41 then false else false) else (if m < 43 then (if m = 42 then false else false) else (if m = 43 then false else false)))) else (if m < 47 then (if m < 45 then (if m = 44 then false else false) else (if m < 46 then (if m = 45 then false else false) else (if m = 46 then false else false))) else (if m < 49 then (if m < 48 then (if m = 47 then false else false) else (if m = 48 then false else false)) else (if m < 50 then (if m = 49 then false else false) else (if m = 50 then false else false))))))) else (if m < 77 then (if m < 64 then (if m < 57 then (if m < 54 then (if m < 52 then (if m = 51 then false else false) else (if m < 53 then (if m = 52 then false else false) else (if m = 53 then false else false))) else (if m < 55 then (if m = 54 then false else false) else (if m < 56 then (if m = 55 then false else false) else (if m = 56 then false else false)))) else (if m < 60 then (if m < 58 then (if m = 57 then false else false) else (if m < 59 then (if m = 58 then false else false) else (if m = 59 then false else false))) else (if m < 62 then (if m < 61 then (if m = 60 then false else false) else (if m = 61 then false else false)) else (if m < 63 then (if m = 62 then false else false) else (if m = 63 then false else false))))) else (if m < 70 then (if m < 67 then (if m < 65 then (if m = 64 then false else false) else (if m < 66 then (if m = 65 then false else false) else (if m = 66 then false else false))) else (if m < 68 then (if m = 67 then true else false) else (if m < 69 then (if m = 68 then false else false) else (if m = 69 then false else false)))) else (if m < 73 then (if m < 71 then (if m = 70 then false else false) else (if m < 72 then (if m = 71 then false else false) else (if m = 72 then false else false))) else (if m < 75 then (if m < 74 then (if m = 73 then false else false) else (if m = 74 then false else false)) else (if m < 76 then (if m = 75 then false else false) else (if m = 76 then false else false)))))) else (if m < 90 then (if m < 83 then (if m < 80 then (if m < 78 then (if m = 77 then false else false) else (if m < 79 then (if m = 78 then false else false) else (if m = 79 then false else false))) else (if m < 81 then (if m = 80 then false else false) else (if m < 82 then (if m = 81 then false else false) else (if m = 82 then false else false)))) else (if m < 86 then (if m < 84 then (if m = 83 then false else false) else (if m < 85 then (if m = 84 then false else false) else (if m = 85 then false else false))) else (if m < 88 then (if m < 87 then (if m = 86 then false else false) else (if m = 87 then false else false)) else (if m < 89 then (if m = 88 then false else false) else (if m = 89 then false else false))))) else (if m < 96 then (if m < 93 then (if m < 91 then (if m = 90 then true else false) else (if m < 92 then (if m = 91 then true else false) else (if m = 92 then true else false))) else (if m < 94 then (if m = 93 then true else false) else (if m < 95 then (if m = 94 then true else false) else (if m = 95 then true else false)))) else (if m < 99 then (if m < 97 then (if m = 96 then true else false) else (if m < 98 then (if m = 97 then true else false) else (if m = 98 then true else false))) else (if m < 101 then (if m < 100 then (if m = 99 then true else false) else (if m = 100 then true else false)) else (if m < 102 then (if m = 101 then true else false) else (if m = 102 then true else false)))))))
/-- the comp of this (of an instance method) -/
def mT (m : Nat) : Nat := if m < 51 then (if m < 25 then (if m < 12 then (if m < 6 then (if m < 3 then (if m < 1 then (if m = 0 then 99 else 99) else (if m < 2 then (if m = 1 then 21 else 99) else (if m = 2 then 21 else 99))) else (if m < 4 then (if m = 3 then 21 else 99) else (if m < 5 then (if m = 4 then 5 else 99) else (if m = 5 then 5 else 99)))) else (if m < 9 then (if m < 7 then (if m = 6 then 5 else 99) else (if m < 8 then (if m = 7 then 5 else 99) else (if m = 8 then 5 else 99))) else (if m < 10 then (if m = 9 then 5 else 99) else (if m < 11 then (if m = 10 then 5 else 99) else (if m = 11 then 5 else 99))))) else (if m < 18 then (if m < 15 then (if m < 13 then (if m = 12 then 5 else 99) else (if m < 14 then (if m = 13 then 18 else 99) else (if m = 14 then 18 else 99))) else (if m < 16 then (if m = 15 then 18 else 99) else (if m < 17 then (if m = 16 then 18 else 99) else (if m = 17 then 18 else 99)))) else (if m < 21 then (if m < 19 then (if m = 18 then 18 else 99) else (if m < 20 then (if m = 19 then 18 else 99) else (if m = 20 then 0 else 99))) else (if m < 23 then (if m < 22 then (if m = 21 then 0 else 99) else (if m = 22 then 0 else 99)) else (if m < 24 then (if m = 23 then 0 else 99) else (if m = 24 then 0 else 99)))))) else (if m < 38 then (if m < 31 then (if m < 28 then (if m < 26 then (if m = 25 then 0 else 99) else (if m < 27 then (if m = 26 then 0 else 99) else (if m = 27 then 0 else 99))) else (if m < 29 then (if m = 28 then 0 else 99) else (if m < 30 then (if m = 29 then 0 else 99) else (if m = 30 then 0 else 99)))) else (if m < 34 then (if m < 32 then (if m = 31 then 0 else 99) else (if m < 33 then (if m = 32 then 0 else 99) else (if m = 33 then 0 else 99))) else (if m < 36 then (if m < 35 then (if m = 34 then 0 else 99) else (if m = 35 then 0 else 99)) else (if m < 37 then (if m = 36 then 0 else 99) else (if m = 37 then 0 else 99))))) else (if m < 44 then (if m < 41 then (if m < 39 then (if m = 38 then 0 else 99) else (if m < 40 then (if m = 39 then 0 else 99) else (if m = 40 then 0 else 99))) else (if m < 42 then (if m = 41 then 0 else 99) else (if m < 43 then (if m = 42 then 0 else 99) else (if m = 43 then 2 else 99)))) else (if m < 47 then (if m < 45 then (if m = 44 then 2 else 99) else (if m < 46 then (if m = 45 then 2 else 99) else (if m = 46 then 2 else 99))) else (if m < 49 then (if m < 48 then (if m = 47 then 2 else 99) else (if m = 48 then 2 else 99)) else (if m < 50 then (if m = 49 then 2 else 99) else (if m = 50 then 2 else 99))))))) else (if m < 77 then (if m < 64 then (if m < 57 then (if m < 54 then (if m < 52 then (if m = 51 then 2 else 99) else (if m < 53 then (if m = 52 then 9 else 99) else (if m = 53 then 9 else 99))) else (if m < 55 then (if m = 54 then 9 else 99) else (if m < 56 then (if m = 55 then 9 else 99) else (if m = 56 then 9 else 99)))) else (if m < 60 then (if m < 58 then (if m = 57 then 9 else 99) else (if m < 59 then (if m = 58 then 9 else 99) else (if m = 59 then 9 else 99))) else (if m < 62 then (if m < 61 then (if m = 60 then 9 else 99) else (if m = 61 then 9 else 99)) else (if m < 63 then (if m = 62 then 9 else 99) else (if m = 63 then 9 else 99))))) else (if m < 70 then (if m < 67 then (if m < 65 then (if m = 64 then 9 else 99) else (if m < 66 then (if m = 65 then 9 else 99) else (if m = 66 then 9 else 99))) else (if m < 68 then (if m = 67 then 9 else 99) else (if m < 69 then (if m = 68 then 9 else 99) else (if m = 69 then 9 else 99)))) else (if m < 73 then (if m < 71 then (if m = 70 then 23 else 99) else (if m < 72 then (if m = 71 then 23 else 99) else (if m = 72 then 23 else 99))) else (if m < 75 then (if m < 74 then (if m = 73 then 23 else 99) else (if m = 74 then 23 else 99)) else (if m < 76 then (if m = 75 then 23 else 99) else (if m = 76 then 23 else 99)))))) else (if m < 90 then (if m < 83 then (if m < 80 then (if m < 78 then (if m = 77 then 23 else 99) else (if m < 79 then (if m = 78 then 23 else 99) else (if m = 79 then 23 else 99))) else (if m < 81 then (if m = 80 then 23 else 99) else (if m < 82 then (if m = 81 then 23 else 99) else (if m = 82 then 23 else 99)))) else (if m < 86 then (if m < 84 then (if m = 83 then 23 else 99) else (if m < 85 then (if m = 84 then 23 else 99) else (if m = 85 then 23 else 99))) else (if m < 88 then (if m < 87 then (if m = 86 then 23 else 99) else (if m = 87 then 23 else 99)) else (if m < 89 then (if m = 88 then 23 else 99) else (if m = 89 then 23 else 99))))) else (if m < 96 then (if m < 93 then (if m < 91 then (if m = 90 then 23 else 99) else (if m < 92 then (if m = 91 then 23 else 99) else (if m = 92 then 23 else 99))) else (if m < 94 then (if m = 93 then 23 else 99) else (if m < 95 then (if m = 94 then 23 else 99) else (if m = 95 then 99 else 99)))) else (if m < 99 then (if m < 97 then (if m = 96 then 99 else 99) else (if m < 98 then (if m = 97 then 99 else 99) else (if m = 98 then 99 else 99))) else (if m < 101 then (if m < 100 then (if m = 99 then 99 else 99) else (if m = 100 then 99 else 99)) else (if m < 102 then (if m = 101 then 99 else 99) else (if m = 102 then 99 else 99)))))))
/-- how many methods, and how many bytes each (or more) -/
def mN : Nat := 103
def f_L_law (pc : Nat) : Option En := if pc < 243 then (if pc < 111 then (if pc < 54 then (if pc < 25 then (if pc < 13 then (if pc < 8 then (if pc < 4 then (if pc < 3 then (if pc = 0 then some (.new 10, 3, 0, 0, 0, 0) else none) else (if pc = 3 then some (.dup, 1, 0, 0, 0, 0) else none)) else (if pc < 7 then (if pc = 4 then some (.invokespecial 59, 3, 0, 0, 0, 0) else none) else (if pc = 7 then some (.astore_n 1, 1, 0, 0, 0, 0) else none))) else (if pc < 10 then (if pc < 9 then (if pc = 8 then some (.iconst 0, 1, 0, 0, 0, 0) else none) else (if pc = 9 then some (.istore_n 2, 1, 0, 0, 0, 0) else none)) else (if pc < 11 then (if pc = 10 then some (.iload_n 2, 1, 0, 0, 0, 0) else none) else (if pc = 11 then some (.bipush 30, 2, 0, 0, 0, 0) else none)))) else (if pc < 20 then (if pc < 17 then (if pc < 16 then (if pc = 13 then some (.if_icmp .ge 33, 3, 46, 0, 0, 0) else none) else (if pc = 16 then some (.aload_n 1, 1, 0, 0, 0, 0) else none)) else (if pc < 18 then (if pc = 17 then some (.iload_n 2, 1, 0, 0, 0, 0) else none) else (if pc = 18 then some (.bipush 100, 2, 0, 0, 0, 0) else none))) else (if pc < 22 then (if pc < 21 then (if pc = 20 then some (.aload_n 0, 1, 0, 0, 0, 0) else none) else (if pc = 21 then some (.iload_n 2, 1, 0, 0, 0, 0) else none)) else (if pc < 24 then (if pc = 22 then some (.bipush 7, 2, 0, 0, 0, 0) else none) else (if pc = 24 then some (.irem, 1, 0, 0, 0, 0) else none))))) else (if pc < 39 then (if pc < 31 then (if pc < 29 then (if pc < 28 then (if pc = 25 then some (.invokestatic 60, 3, 96, 2, 537, 0) else none) else (if pc = 28 then some (.iload_n 2, 1, 0, 0, 0, 0) else none)) else (if pc < 30 then (if pc = 29 then some (.iadd, 1, 0, 0, 0, 0) else none) else (if pc = 30 then some (.iconst 2, 1, 0, 0, 0, 0) else none))) else (if pc < 35 then (if pc < 34 then (if pc = 31 then some (.invokestatic 36, 3, 97, 2, 541, 0) else none) else (if pc = 34 then some (.imul, 1, 0, 0, 0, 0) else none)) else (if pc < 36 then (if pc = 35 then some (.iadd, 1, 0, 0, 0, 0) else none) else (if pc = 36 then some (.invokevirtual 41, 3, 70, 1, 229, 0) else none)))) else (if pc < 47 then (if pc < 43 then (if pc < 40 then (if pc = 39 then some (.pop, 1, 0, 0, 0, 0) else none) else (if pc = 40 then some (.iinc 2 1, 3, 0, 0, 0, 0) else none)) else (if pc < 46 then (if pc = 43 then some (.goto (-33), 3, 10, 0, 0, 0) else none) else (if pc = 46 then some (.iconst 0, 1, 0, 0, 0, 0) else none))) else (if pc < 49 then (if pc < 48 then (if pc = 47 then some (.istore_n 2, 1, 0, 0, 0, 0) else none) else (if pc = 48 then some (.iload_n 2, 1, 0, 0, 0, 0) else none)) else (if pc < 51 then (if pc = 49 then some (.bipush 24, 2, 0, 0, 0, 0) else none) else (if pc = 51 then some (.if_icmp .ge 383, 3, 434, 0, 0, 0) else none)))))) else (if pc < 77 then (if pc < 65 then (if pc < 59 then (if pc < 57 then (if pc < 55 then (if pc = 54 then some (.aload_n 0, 1, 0, 0, 0, 0) else none) else (if pc = 55 then some (.bipush 7, 2, 0, 0, 0, 0) else none)) else (if pc < 58 then (if pc = 57 then some (.iconst 2, 1, 0, 0, 0, 0) else none) else (if pc = 58 then some (.iload_n 2, 1, 0, 0, 0, 0) else none))) else (if pc < 61 then (if pc < 60 then (if pc = 59 then some (.imul, 1, 0, 0, 0, 0) else none) else (if pc = 60 then some (.iadd, 1, 0, 0, 0, 0) else none)) else (if pc < 64 then (if pc = 61 then some (.invokestatic 60, 3, 96, 2, 537, 0) else none) else (if pc = 64 then some (.istore_n 3, 1, 0, 0, 0, 0) else none)))) else (if pc < 70 then (if pc < 68 then (if pc < 66 then (if pc = 65 then some (.aload_n 0, 1, 0, 0, 0, 0) else none) else (if pc = 66 then some (.bipush 8, 2, 0, 0, 0, 0) else none)) else (if pc < 69 then (if pc = 68 then some (.iconst 2, 1, 0, 0, 0, 0) else none) else (if pc = 69 then some (.iload_n 2, 1, 0, 0, 0, 0) else none))) else (if pc < 72 then (if pc < 71 then (if pc = 70 then some (.imul, 1, 0, 0, 0, 0) else none) else (if pc = 71 then some (.iadd, 1, 0, 0, 0, 0) else none)) else (if pc < 75 then (if pc = 72 then some (.invokestatic 60, 3, 96, 2, 537, 0) else none) else (if pc = 75 then some (.istore 4, 2, 0, 0, 0, 0) else none))))) else (if pc < 92 then (if pc < 84 then (if pc < 81 then (if pc < 78 then (if pc = 77 then some (.aload_n 1, 1, 0, 0, 0, 0) else none) else (if pc = 78 then some (.invokestatic 64, 3, 98, 1, 545, 0) else none)) else (if pc < 83 then (if pc = 81 then some (.astore 5, 2, 0, 0, 0, 0) else none) else (if pc = 83 then some (.aload_n 1, 1, 0, 0, 0, 0) else none))) else (if pc < 89 then (if pc < 86 then (if pc = 84 then some (.bipush 12, 2, 0, 0, 0, 0) else none) else (if pc = 86 then some (.invokevirtual 9, 3, 80, 1, 486, 0) else none)) else (if pc < 91 then (if pc = 89 then some (.istore 6, 2, 0, 0, 0, 0) else none) else (if pc = 91 then some (.aload_n 1, 1, 0, 0, 0, 0) else none)))) else (if pc < 100 then (if pc < 95 then (if pc < 93 then (if pc = 92 then some (.iload_n 3, 1, 0, 0, 0, 0) else none) else (if pc = 93 then some (.iload 4, 2, 0, 0, 0, 0) else none)) else (if pc < 98 then (if pc = 95 then some (.invokestatic 68, 3, 102, 3, 614, 0) else none) else (if pc = 98 then some (.istore 7, 2, 0, 0, 0, 0) else none))) else (if pc < 104 then (if pc < 101 then (if pc = 100 then some (.aload_n 1, 1, 0, 0, 0, 0) else none) else (if pc = 101 then some (.invokestatic 64, 3, 98, 1, 545, 0) else none)) else (if pc < 106 then (if pc = 104 then some (.astore 8, 2, 0, 0, 0, 0) else none) else (if pc < 108 then (if pc = 106 then some (.iload 7, 2, 0, 0, 0, 0) else none) else (if pc = 108 then some (.ifCond .ge 26, 3, 134, 0, 0, 0) else none)))))))) else (if pc < 182 then (if pc < 144 then (if pc < 129 then (if pc < 121 then (if pc < 115 then (if pc < 113 then (if pc = 111 then some (.aload 5, 2, 0, 0, 0, 0) else none) else (if pc = 113 then some (.aload 8, 2, 0, 0, 0, 0) else none)) else (if pc < 118 then (if pc = 115 then some (.invokestatic 72, 3, 99, 2, 600, 0) else none) else (if pc = 118 then some (.ifCond .eq 14, 3, 132, 0, 0, 0) else none))) else (if pc < 124 then (if pc < 122 then (if pc = 121 then some (.aload_n 1, 1, 0, 0, 0, 0) else none) else (if pc = 122 then some (.bipush 12, 2, 0, 0, 0, 0) else none)) else (if pc < 127 then (if pc = 124 then some (.invokevirtual 9, 3, 80, 1, 486, 0) else none) else (if pc = 127 then some (.iload 6, 2, 0, 0, 0, 0) else none)))) else (if pc < 136 then (if pc < 133 then (if pc < 132 then (if pc = 129 then some (.if_icmp .eq 5, 3, 134, 0, 0, 0) else none) else (if pc = 132 then some (.iconst 0, 1, 0, 0, 0, 0) else none)) else (if pc < 134 then (if pc = 133 then some (.ireturn, 1, 0, 0, 0, 0) else none) else (if pc = 134 then some (.iload 7, 2, 0, 0, 0, 0) else none))) else (if pc < 140 then (if pc < 139 then (if pc = 136 then some (.ifCond .lt 72, 3, 208, 0, 0, 0) else none) else (if pc = 139 then some (.iload_n 3, 1, 0, 0, 0, 0) else none)) else (if pc < 141 then (if pc = 140 then some (.iconst 4, 1, 0, 0, 0, 0) else none) else (if pc = 141 then some (.invokestatic 36, 3, 97, 2, 541, 0) else none))))) else (if pc < 162 then (if pc < 153 then (if pc < 148 then (if pc < 147 then (if pc = 144 then some (.ifCond .ne 64, 3, 208, 0, 0, 0) else none) else (if pc = 147 then some (.aload_n 1, 1, 0, 0, 0, 0) else none)) else (if pc < 151 then (if pc = 148 then some (.invokevirtual 76, 3, 76, 0, 469, 0) else none) else (if pc = 151 then some (.istore 9, 2, 0, 0, 0, 0) else none))) else (if pc < 157 then (if pc < 154 then (if pc = 153 then some (.aload_n 1, 1, 0, 0, 0, 0) else none) else (if pc = 154 then some (.invokestatic 64, 3, 98, 1, 545, 0) else none)) else (if pc < 159 then (if pc = 157 then some (.aload 5, 2, 0, 0, 0, 0) else none) else (if pc = 159 then some (.invokestatic 72, 3, 99, 2, 600, 0) else none)))) else (if pc < 170 then (if pc < 167 then (if pc < 165 then (if pc = 162 then some (.ifCond .eq 44, 3, 206, 0, 0, 0) else none) else (if pc = 165 then some (.iload 9, 2, 0, 0, 0, 0) else none)) else (if pc < 169 then (if pc = 167 then some (.iload 6, 2, 0, 0, 0, 0) else none) else (if pc = 169 then some (.iconst 4, 1, 0, 0, 0, 0) else none))) else (if pc < 174 then (if pc < 173 then (if pc = 170 then some (.if_icmp .ne 7, 3, 177, 0, 0, 0) else none) else (if pc = 173 then some (.iconst 3, 1, 0, 0, 0, 0) else none)) else (if pc < 177 then (if pc = 174 then some (.goto 5, 3, 179, 0, 0, 0) else none) else (if pc < 179 then (if pc = 177 then some (.iload 6, 2, 0, 0, 0, 0) else none) else (if pc = 179 then some (.if_icmp .ne 27, 3, 206, 0, 0, 0) else none))))))) else (if pc < 211 then (if pc < 198 then (if pc < 189 then (if pc < 184 then (if pc < 183 then (if pc = 182 then some (.aload_n 1, 1, 0, 0, 0, 0) else none) else (if pc = 183 then some (.iload_n 3, 1, 0, 0, 0, 0) else none)) else (if pc < 186 then (if pc = 184 then some (.iload 4, 2, 0, 0, 0, 0) else none) else (if pc = 186 then some (.invokestatic 68, 3, 102, 3, 614, 0) else none))) else (if pc < 194 then (if pc < 191 then (if pc = 189 then some (.iload 7, 2, 0, 0, 0, 0) else none) else (if pc = 191 then some (.if_icmp .ne 15, 3, 206, 0, 0, 0) else none)) else (if pc < 195 then (if pc = 194 then some (.aload_n 1, 1, 0, 0, 0, 0) else none) else (if pc = 195 then some (.invokestatic 64, 3, 98, 1, 545, 0) else none)))) else (if pc < 207 then (if pc < 203 then (if pc < 200 then (if pc = 198 then some (.aload 8, 2, 0, 0, 0, 0) else none) else (if pc = 200 then some (.invokestatic 72, 3, 99, 2, 600, 0) else none)) else (if pc < 206 then (if pc = 203 then some (.ifCond .ne 5, 3, 208, 0, 0, 0) else none) else (if pc = 206 then some (.iconst 0, 1, 0, 0, 0, 0) else none))) else (if pc < 209 then (if pc < 208 then (if pc = 207 then some (.ireturn, 1, 0, 0, 0, 0) else none) else (if pc = 208 then some (.iload_n 2, 1, 0, 0, 0, 0) else none)) else (if pc < 210 then (if pc = 209 then some (.iconst 2, 1, 0, 0, 0, 0) else none) else (if pc = 210 then some (.irem, 1, 0, 0, 0, 0) else none))))) else (if pc < 227 then (if pc < 219 then (if pc < 215 then (if pc < 212 then (if pc = 211 then some (.iconst 1, 1, 0, 0, 0, 0) else none) else (if pc = 212 then some (.if_icmp .ne 28, 3, 240, 0, 0, 0) else none)) else (if pc < 216 then (if pc = 215 then some (.aload_n 1, 1, 0, 0, 0, 0) else none) else (if pc = 216 then some (.invokestatic 79, 3, 100, 1, 603, 0) else none))) else (if pc < 223 then (if pc < 222 then (if pc = 219 then some (.ifCond .eq 19, 3, 238, 0, 0, 0) else none) else (if pc = 222 then some (.aload_n 1, 1, 0, 0, 0, 0) else none)) else (if pc < 225 then (if pc = 223 then some (.bipush 100, 2, 0, 0, 0, 0) else none) else (if pc = 225 then some (.iload 4, 2, 0, 0, 0, 0) else none)))) else (if pc < 235 then (if pc < 231 then (if pc < 228 then (if pc = 227 then some (.iconst 2, 1, 0, 0, 0, 0) else none) else (if pc = 228 then some (.invokestatic 36, 3, 97, 2, 541, 0) else none)) else (if pc < 232 then (if pc = 231 then some (.imul, 1, 0, 0, 0, 0) else none) else (if pc = 232 then some (.invokestatic 83, 3, 101, 2, 606, 0) else none))) else (if pc < 239 then (if pc < 238 then (if pc = 235 then some (.ifCond .ne 5, 3, 240, 0, 0, 0) else none) else (if pc = 238 then some (.iconst 0, 1, 0, 0, 0, 0) else none)) else (if pc < 240 then (if pc = 239 then some (.ireturn, 1, 0, 0, 0, 0) else none) else (if pc < 241 then (if pc = 240 then some (.iload_n 2, 1, 0, 0, 0, 0) else none) else (if pc = 241 then some (.bipush 6, 2, 0, 0, 0, 0) else none))))))))) else (if pc < 359 then (if pc < 303 then (if pc < 272 then (if pc < 257 then (if pc < 249 then (if pc < 245 then (if pc < 244 then (if pc = 243 then some (.irem, 1, 0, 0, 0, 0) else none) else (if pc = 244 then some (.iconst 5, 1, 0, 0, 0, 0) else none)) else (if pc < 248 then (if pc = 245 then some (.if_icmp .ne 183, 3, 428, 0, 0, 0) else none) else (if pc = 248 then some (.aload_n 1, 1, 0, 0, 0, 0) else none))) else (if pc < 254 then (if pc < 251 then (if pc = 249 then some (.bipush 14, 2, 0, 0, 0, 0) else none) else (if pc = 251 then some (.invokevirtual 9, 3, 80, 1, 486, 0) else none)) else (if pc < 256 then (if pc = 254 then some (.istore 9, 2, 0, 0, 0, 0) else none) else (if pc = 256 then some (.aload_n 1, 1, 0, 0, 0, 0) else none)))) else (if pc < 265 then (if pc < 261 then (if pc < 259 then (if pc = 257 then some (.iload 9, 2, 0, 0, 0, 0) else none) else (if pc = 259 then some (.bipush 9, 2, 0, 0, 0, 0) else none)) else (if pc < 262 then (if pc = 261 then some (.iconst 0, 1, 0, 0, 0, 0) else none) else (if pc = 262 then some (.invokevirtual 87, 3, 83, 3, 506, 0) else none))) else (if pc < 268 then (if pc < 267 then (if pc = 265 then some (.istore 10, 2, 0, 0, 0, 0) else none) else (if pc = 267 then some (.aload_n 1, 1, 0, 0, 0, 0) else none)) else (if pc < 270 then (if pc = 268 then some (.iload 9, 2, 0, 0, 0, 0) else none) else (if pc = 270 then some (.bipush 9, 2, 0, 0, 0, 0) else none))))) else (if pc < 287 then (if pc < 279 then (if pc < 276 then (if pc < 273 then (if pc = 272 then some (.iconst 2, 1, 0, 0, 0, 0) else none) else (if pc = 273 then some (.invokevirtual 87, 3, 83, 3, 506, 0) else none)) else (if pc < 278 then (if pc = 276 then some (.istore 11, 2, 0, 0, 0, 0) else none) else (if pc = 278 then some (.aload_n 1, 1, 0, 0, 0, 0) else none))) else (if pc < 283 then (if pc < 281 then (if pc = 279 then some (.iload 9, 2, 0, 0, 0, 0) else none) else (if pc = 281 then some (.bipush 9, 2, 0, 0, 0, 0) else none)) else (if pc < 284 then (if pc = 283 then some (.iconst 3, 1, 0, 0, 0, 0) else none) else (if pc = 284 then some (.invokevirtual 87, 3, 83, 3, 506, 0) else none)))) else (if pc < 293 then (if pc < 290 then (if pc < 289 then (if pc = 287 then some (.ldc 91, 2, 100000, 0, 655, 0) else none) else (if pc = 289 then some (.isub, 1, 0, 0, 0, 0) else none)) else (if pc < 292 then (if pc = 290 then some (.istore 12, 2, 0, 0, 0, 0) else none) else (if pc = 292 then some (.aload_n 1, 1, 0, 0, 0, 0) else none))) else (if pc < 297 then (if pc < 295 then (if pc = 293 then some (.iload 9, 2, 0, 0, 0, 0) else none) else (if pc = 295 then some (.bipush 9, 2, 0, 0, 0, 0) else none)) else (if pc < 298 then (if pc = 297 then some (.iconst 1, 1, 0, 0, 0, 0) else none) else (if pc < 301 then (if pc = 298 then some (.invokevirtual 87, 3, 83, 3, 506, 0) else none) else (if pc = 301 then some (.istore 13, 2, 0, 0, 0, 0) else none))))))) else (if pc < 333 then (if pc < 318 then (if pc < 310 then (if pc < 307 then (if pc < 304 then (if pc = 303 then some (.aload_n 1, 1, 0, 0, 0, 0) else none) else (if pc = 304 then some (.invokevirtual 92, 3, 84, 0, 533, 0) else none)) else (if pc < 309 then (if pc = 307 then some (.istore 14, 2, 0, 0, 0, 0) else none) else (if pc = 309 then some (.aload_n 1, 1, 0, 0, 0, 0) else none))) else (if pc < 315 then (if pc < 313 then (if pc = 310 then some (.invokestatic 64, 3, 98, 1, 545, 0) else none) else (if pc = 313 then some (.astore 15, 2, 0, 0, 0, 0) else none)) else (if pc < 316 then (if pc = 315 then some (.aload_n 1, 1, 0, 0, 0, 0) else none) else (if pc = 316 then some (.bipush 9, 2, 0, 0, 0, 0) else none)))) else (if pc < 326 then (if pc < 322 then (if pc < 321 then (if pc = 318 then some (.invokevirtual 56, 3, 74, 1, 315, 0) else none) else (if pc = 321 then some (.pop, 1, 0, 0, 0, 0) else none)) else (if pc < 323 then (if pc = 322 then some (.aload_n 1, 1, 0, 0, 0, 0) else none) else (if pc = 323 then some (.invokestatic 64, 3, 98, 1, 545, 0) else none))) else (if pc < 330 then (if pc < 328 then (if pc = 326 then some (.astore 16, 2, 0, 0, 0, 0) else none) else (if pc = 328 then some (.aload 16, 2, 0, 0, 0, 0) else none)) else (if pc < 332 then (if pc = 330 then some (.bipush 23, 2, 0, 0, 0, 0) else none) else (if pc = 332 then some (.iaload, 1, 0, 0, 0, 0) else none))))) else (if pc < 345 then (if pc < 339 then (if pc < 337 then (if pc < 335 then (if pc = 333 then some (.aload 16, 2, 0, 0, 0, 0) else none) else (if pc = 335 then some (.bipush 33, 2, 0, 0, 0, 0) else none)) else (if pc < 338 then (if pc = 337 then some (.iaload, 1, 0, 0, 0, 0) else none) else (if pc = 338 then some (.iadd, 1, 0, 0, 0, 0) else none))) else (if pc < 343 then (if pc < 341 then (if pc = 339 then some (.aload 16, 2, 0, 0, 0, 0) else none) else (if pc = 341 then some (.bipush 43, 2, 0, 0, 0, 0) else none)) else (if pc < 344 then (if pc = 343 then some (.iaload, 1, 0, 0, 0, 0) else none) else (if pc = 344 then some (.iadd, 1, 0, 0, 0, 0) else none)))) else (if pc < 351 then (if pc < 349 then (if pc < 347 then (if pc = 345 then some (.aload 15, 2, 0, 0, 0, 0) else none) else (if pc = 347 then some (.bipush 23, 2, 0, 0, 0, 0) else none)) else (if pc < 350 then (if pc = 349 then some (.iaload, 1, 0, 0, 0, 0) else none) else (if pc = 350 then some (.isub, 1, 0, 0, 0, 0) else none))) else (if pc < 355 then (if pc < 353 then (if pc = 351 then some (.aload 15, 2, 0, 0, 0, 0) else none) else (if pc = 353 then some (.bipush 33, 2, 0, 0, 0, 0) else none)) else (if pc < 356 then (if pc = 355 then some (.iaload, 1, 0, 0, 0, 0) else none) else (if pc < 357 then (if pc = 356 then some (.isub, 1, 0, 0, 0, 0) else none) else (if pc = 357 then some (.aload 15, 2, 0, 0, 0, 0) else none)))))))) else (if pc < 410 then (if pc < 386 then (if pc < 371 then (if pc < 365 then (if pc < 362 then (if pc < 361 then (if pc = 359 then some (.bipush 43, 2, 0, 0, 0, 0) else none) else (if pc = 361 then some (.iaload, 1, 0, 0, 0, 0) else none)) else (if pc < 363 then (if pc = 362 then some (.isub, 1, 0, 0, 0, 0) else none) else (if pc = 363 then some (.istore 17, 2, 0, 0, 0, 0) else none))) else (if pc < 368 then (if pc < 367 then (if pc = 365 then some (.aload 16, 2, 0, 0, 0, 0) else none) else (if pc = 367 then some (.iconst 5, 1, 0, 0, 0, 0) else none)) else (if pc < 369 then (if pc = 368 then some (.iaload, 1, 0, 0, 0, 0) else none) else (if pc = 369 then some (.aload 15, 2, 0, 0, 0, 0) else none)))) else (if pc < 376 then (if pc < 373 then (if pc < 372 then (if pc = 371 then some (.iconst 5, 1, 0, 0, 0, 0) else none) else (if pc = 372 then some (.iaload, 1, 0, 0, 0, 0) else none)) else (if pc < 374 then (if pc = 373 then some (.isub, 1, 0, 0, 0, 0) else none) else (if pc = 374 then some (.iload 10, 2, 0, 0, 0, 0) else none))) else (if pc < 381 then (if pc < 379 then (if pc = 376 then some (.if_icmp .ne 50, 3, 426, 0, 0, 0) else none) else (if pc = 379 then some (.iload 17, 2, 0, 0, 0, 0) else none)) else (if pc < 383 then (if pc = 381 then some (.iload 11, 2, 0, 0, 0, 0) else none) else (if pc = 383 then some (.if_icmp .ne 43, 3, 426, 0, 0, 0) else none))))) else (if pc < 397 then (if pc < 392 then (if pc < 389 then (if pc < 388 then (if pc = 386 then some (.aload 16, 2, 0, 0, 0, 0) else none) else (if pc = 388 then some (.iconst 2, 1, 0, 0, 0, 0) else none)) else (if pc < 390 then (if pc = 389 then some (.iaload, 1, 0, 0, 0, 0) else none) else (if pc = 390 then some (.aload 16, 2, 0, 0, 0, 0) else none))) else (if pc < 394 then (if pc < 393 then (if pc = 392 then some (.iconst 3, 1, 0, 0, 0, 0) else none) else (if pc = 393 then some (.iaload, 1, 0, 0, 0, 0) else none)) else (if pc < 395 then (if pc = 394 then some (.isub, 1, 0, 0, 0, 0) else none) else (if pc = 395 then some (.aload 15, 2, 0, 0, 0, 0) else none)))) else (if pc < 402 then (if pc < 399 then (if pc < 398 then (if pc = 397 then some (.iconst 2, 1, 0, 0, 0, 0) else none) else (if pc = 398 then some (.iaload, 1, 0, 0, 0, 0) else none)) else (if pc < 400 then (if pc = 399 then some (.isub, 1, 0, 0, 0, 0) else none) else (if pc = 400 then some (.aload 15, 2, 0, 0, 0, 0) else none))) else (if pc < 404 then (if pc < 403 then (if pc = 402 then some (.iconst 3, 1, 0, 0, 0, 0) else none) else (if pc = 403 then some (.iaload, 1, 0, 0, 0, 0) else none)) else (if pc < 405 then (if pc = 404 then some (.iadd, 1, 0, 0, 0, 0) else none) else (if pc < 407 then (if pc = 405 then some (.iload 12, 2, 0, 0, 0, 0) else none) else (if pc = 407 then some (.if_icmp .ne 19, 3, 426, 0, 0, 0) else none))))))) else (if pc < 442 then (if pc < 426 then (if pc < 417 then (if pc < 414 then (if pc < 412 then (if pc = 410 then some (.aload 16, 2, 0, 0, 0, 0) else none) else (if pc = 412 then some (.bipush 9, 2, 0, 0, 0, 0) else none)) else (if pc < 415 then (if pc = 414 then some (.iaload, 1, 0, 0, 0, 0) else none) else (if pc = 415 then some (.iload 13, 2, 0, 0, 0, 0) else none))) else (if pc < 422 then (if pc < 420 then (if pc = 417 then some (.if_icmp .ne 9, 3, 426, 0, 0, 0) else none) else (if pc = 420 then some (.iload 14, 2, 0, 0, 0, 0) else none)) else (if pc < 423 then (if pc = 422 then some (.iconst 2, 1, 0, 0, 0, 0) else none) else (if pc = 423 then some (.if_icmp .le 5, 3, 428, 0, 0, 0) else none)))) else (if pc < 434 then (if pc < 428 then (if pc < 427 then (if pc = 426 then some (.iconst 0, 1, 0, 0, 0, 0) else none) else (if pc = 427 then some (.ireturn, 1, 0, 0, 0, 0) else none)) else (if pc < 431 then (if pc = 428 then some (.iinc 2 1, 3, 0, 0, 0, 0) else none) else (if pc = 431 then some (.goto (-383), 3, 48, 0, 0, 0) else none))) else (if pc < 438 then (if pc < 435 then (if pc = 434 then some (.aload_n 1, 1, 0, 0, 0, 0) else none) else (if pc = 435 then some (.sipush 600, 3, 0, 0, 0, 0) else none)) else (if pc < 439 then (if pc = 438 then some (.iconst 0, 1, 0, 0, 0, 0) else none) else (if pc = 439 then some (.invokevirtual 30, 3, 77, 2, 473, 0) else none))))) else (if pc < 456 then (if pc < 448 then (if pc < 446 then (if pc < 443 then (if pc = 442 then some (.iconst (-1), 1, 0, 0, 0, 0) else none) else (if pc = 443 then some (.if_icmp .ne 27, 3, 470, 0, 0, 0) else none)) else (if pc < 447 then (if pc = 446 then some (.aload_n 1, 1, 0, 0, 0, 0) else none) else (if pc = 447 then some (.iconst 3, 1, 0, 0, 0, 0) else none))) else (if pc < 452 then (if pc < 449 then (if pc = 448 then some (.iconst 0, 1, 0, 0, 0, 0) else none) else (if pc = 449 then some (.invokevirtual 47, 3, 72, 2, 300, 0) else none)) else (if pc < 453 then (if pc = 452 then some (.iconst (-1), 1, 0, 0, 0, 0) else none) else (if pc = 453 then some (.if_icmp .ne 17, 3, 470, 0, 0, 0) else none)))) else (if pc < 463 then (if pc < 458 then (if pc < 457 then (if pc = 456 then some (.aload_n 1, 1, 0, 0, 0, 0) else none) else (if pc = 457 then some (.iconst 0, 1, 0, 0, 0, 0) else none)) else (if pc < 461 then (if pc = 458 then some (.invokevirtual 56, 3, 74, 1, 315, 0) else none) else (if pc = 461 then some (.bipush (-2), 2, 0, 0, 0, 0) else none))) else (if pc < 467 then (if pc < 466 then (if pc = 463 then some (.if_icmp .ne 7, 3, 470, 0, 0, 0) else none) else (if pc = 466 then some (.iconst 1, 1, 0, 0, 0, 0) else none)) else (if pc < 470 then (if pc = 467 then some (.goto 4, 3, 471, 0, 0, 0) else none) else (if pc < 471 then (if pc = 470 then some (.iconst 0, 1, 0, 0, 0, 0) else none) else (if pc = 471 then some (.ireturn, 1, 0, 0, 0, 0) else none)))))))))
def f_X0_copyFrom (pc : Nat) : Option En := if pc < 16 then (if pc < 8 then (if pc < 2 then (if pc < 1 then (if pc = 0 then some (.aload_n 0, 1, 0, 0, 0, 0) else none) else (if pc = 1 then some (.aload_n 1, 1, 0, 0, 0, 0) else none)) else (if pc < 5 then (if pc = 2 then some (.getfield 15, 3, 21, 0, 128, 0) else none) else (if pc = 5 then some (.putfield 15, 3, 21, 0, 128, 0) else none))) else (if pc < 10 then (if pc < 9 then (if pc = 8 then some (.aload_n 0, 1, 0, 0, 0, 0) else none) else (if pc = 9 then some (.aload_n 1, 1, 0, 0, 0, 0) else none)) else (if pc < 13 then (if pc = 10 then some (.getfield 19, 3, 21, 1, 130, 0) else none) else (if pc = 13 then some (.putfield 19, 3, 21, 1, 130, 0) else none)))) else (if pc < 22 then (if pc < 20 then (if pc < 17 then (if pc = 16 then some (.aload_n 1, 1, 0, 0, 0, 0) else none) else (if pc = 17 then some (.getfield 9, 3, 21, 2, 132, 0) else none)) else (if pc < 21 then (if pc = 20 then some (.iconst 0, 1, 0, 0, 0, 0) else none) else (if pc = 21 then some (.aload_n 0, 1, 0, 0, 0, 0) else none))) else (if pc < 26 then (if pc < 25 then (if pc = 22 then some (.getfield 9, 3, 21, 2, 132, 0) else none) else (if pc = 25 then some (.iconst 0, 1, 0, 0, 0, 0) else none)) else (if pc < 28 then (if pc = 26 then some (.bipush 114, 2, 0, 0, 0, 0) else none) else (if pc < 31 then (if pc = 28 then some (.invokestatic 22, 3, 9999, 5, 268, 0) else none) else (if pc = 31 then some (.return_, 1, 0, 0, 0, 0) else none)))))
def f_X0_open (pc : Nat) : Option En := if pc < 20 then (if pc < 10 then (if pc < 4 then (if pc < 1 then (if pc = 0 then some (.aload_n 0, 1, 0, 0, 0, 0) else none) else (if pc = 1 then some (.getfield 15, 3, 21, 0, 128, 0) else none)) else (if pc < 6 then (if pc = 4 then some (.bipush 114, 2, 0, 0, 0, 0) else none) else (if pc < 9 then (if pc = 6 then some (.if_icmp .ge 33, 3, 39, 0, 0, 0) else none) else (if pc = 9 then some (.aload_n 0, 1, 0, 0, 0, 0) else none)))) else (if pc < 17 then (if pc < 13 then (if pc = 10 then some (.getfield 9, 3, 21, 2, 132, 0) else none) else (if pc < 14 then (if pc = 13 then some (.aload_n 0, 1, 0, 0, 0, 0) else none) else (if pc = 14 then some (.getfield 15, 3, 21, 0, 128, 0) else none))) else (if pc < 18 then (if pc = 17 then some (.iload_n 1, 1, 0, 0, 0, 0) else none) else (if pc < 19 then (if pc = 18 then some (.iastore, 1, 0, 0, 0, 0) else none) else (if pc = 19 then some (.aload_n 0, 1, 0, 0, 0, 0) else none))))) else (if pc < 30 then (if pc < 25 then (if pc < 21 then (if pc = 20 then some (.dup, 1, 0, 0, 0, 0) else none) else (if pc < 24 then (if pc = 21 then some (.getfield 15, 3, 21, 0, 128, 0) else none) else (if pc = 24 then some (.iconst 1, 1, 0, 0, 0, 0) else none))) else (if pc < 26 then (if pc = 25 then some (.iadd, 1, 0, 0, 0, 0) else none) else (if pc < 29 then (if pc = 26 then some (.putfield 15, 3, 21, 0, 128, 0) else none) else (if pc = 29 then some (.aload_n 0, 1, 0, 0, 0, 0) else none)))) else (if pc < 35 then (if pc < 31 then (if pc = 30 then some (.dup, 1, 0, 0, 0, 0) else none) else (if pc < 34 then (if pc = 31 then some (.getfield 19, 3, 21, 1, 130, 0) else none) else (if pc = 34 then some (.iconst 1, 1, 0, 0, 0, 0) else none))) else (if pc < 36 then (if pc = 35 then some (.iadd, 1, 0, 0, 0, 0) else none) else (if pc < 39 then (if pc = 36 then some (.putfield 19, 3, 21, 1, 130, 0) else none) else (if pc = 39 then some (.return_, 1, 0, 0, 0, 0) else none)))))
def f_X0_takeFirst (pc : Nat) : Option En := if pc < 31 then (if pc < 16 then (if pc < 9 then (if pc < 4 then (if pc < 1 then (if pc = 0 then some (.aload_n 0, 1, 0, 0, 0, 0) else none) else (if pc = 1 then some (.getfield 15, 3, 21, 0, 128, 0) else none)) else (if pc < 7 then (if pc = 4 then some (.ifCond .gt 6, 3, 10, 0, 0, 0) else none) else (if pc = 7 then some (.bipush (-5), 2, 0, 0, 0, 0) else none))) else (if pc < 11 then (if pc < 10 then (if pc = 9 then some (.ireturn, 1, 0, 0, 0, 0) else none) else (if pc = 10 then some (.aload_n 0, 1, 0, 0, 0, 0) else none)) else (if pc < 14 then (if pc = 11 then some (.getfield 9, 3, 21, 2, 132, 0) else none) else (if pc < 15 then (if pc = 14 then some (.iconst 0, 1, 0, 0, 0, 0) else none) else (if pc = 15 then some (.iaload, 1, 0, 0, 0, 0) else none))))) else (if pc < 20 then (if pc < 18 then (if pc < 17 then (if pc = 16 then some (.istore_n 1, 1, 0, 0, 0, 0) else none) else (if pc = 17 then some (.iconst 1, 1, 0, 0, 0, 0) else none)) else (if pc < 19 then (if pc = 18 then some (.istore_n 2, 1, 0, 0, 0, 0) else none) else (if pc = 19 then some (.iload_n 2, 1, 0, 0, 0, 0) else none))) else (if pc < 24 then (if pc < 21 then (if pc = 20 then some (.aload_n 0, 1, 0, 0, 0, 0) else none) else (if pc = 21 then some (.getfield 15, 3, 21, 0, 128, 0) else none)) else (if pc < 27 then (if pc = 24 then some (.if_icmp .ge 23, 3, 47, 0, 0, 0) else none) else (if pc < 28 then (if pc = 27 then some (.aload_n 0, 1, 0, 0, 0, 0) else none) else (if pc = 28 then some (.getfield 9, 3, 21, 2, 132, 0) else none)))))) else (if pc < 44 then (if pc < 35 then (if pc < 33 then (if pc < 32 then (if pc = 31 then some (.iload_n 2, 1, 0, 0, 0, 0) else none) else (if pc = 32 then some (.iconst 1, 1, 0, 0, 0, 0) else none)) else (if pc < 34 then (if pc = 33 then some (.isub, 1, 0, 0, 0, 0) else none) else (if pc = 34 then some (.aload_n 0, 1, 0, 0, 0, 0) else none))) else (if pc < 39 then (if pc < 38 then (if pc = 35 then some (.getfield 9, 3, 21, 2, 132, 0) else none) else (if pc = 38 then some (.iload_n 2, 1, 0, 0, 0, 0) else none)) else (if pc < 40 then (if pc = 39 then some (.iaload, 1, 0, 0, 0, 0) else none) else (if pc < 41 then (if pc = 40 then some (.iastore, 1, 0, 0, 0, 0) else none) else (if pc = 41 then some (.iinc 2 1, 3, 0, 0, 0, 0) else none))))) else (if pc < 52 then (if pc < 48 then (if pc < 47 then (if pc = 44 then some (.goto (-25), 3, 19, 0, 0, 0) else none) else (if pc = 47 then some (.aload_n 0, 1, 0, 0, 0, 0) else none)) else (if pc < 49 then (if pc = 48 then some (.dup, 1, 0, 0, 0, 0) else none) else (if pc = 49 then some (.getfield 15, 3, 21, 0, 128, 0) else none))) else (if pc < 54 then (if pc < 53 then (if pc = 52 then some (.iconst 1, 1, 0, 0, 0, 0) else none) else (if pc = 53 then some (.isub, 1, 0, 0, 0, 0) else none)) else (if pc < 57 then (if pc = 54 then some (.putfield 15, 3, 21, 0, 128, 0) else none) else (if pc < 58 then (if pc = 57 then some (.iload_n 1, 1, 0, 0, 0, 0) else none) else (if pc = 58 then some (.ireturn, 1, 0, 0, 0, 0) else none))))))
def f_X1_copyFrom (pc : Nat) : Option En := if pc < 21 then (if pc < 10 then (if pc < 5 then (if pc < 1 then (if pc = 0 then some (.aload_n 1, 1, 0, 0, 0, 0) else none) else (if pc < 4 then (if pc = 1 then some (.getfield 9, 3, 5, 0, 61, 0) else none) else (if pc = 4 then some (.iconst 0, 1, 0, 0, 0, 0) else none))) else (if pc < 6 then (if pc = 5 then some (.aload_n 0, 1, 0, 0, 0, 0) else none) else (if pc < 9 then (if pc = 6 then some (.getfield 9, 3, 5, 0, 61, 0) else none) else (if pc = 9 then some (.iconst 0, 1, 0, 0, 0, 0) else none)))) else (if pc < 16 then (if pc < 12 then (if pc = 10 then some (.bipush 6, 2, 0, 0, 0, 0) else none) else (if pc < 15 then (if pc = 12 then some (.invokestatic 21, 3, 9999, 5, 253, 0) else none) else (if pc = 15 then some (.aload_n 1, 1, 0, 0, 0, 0) else none))) else (if pc < 19 then (if pc = 16 then some (.getfield 15, 3, 5, 1, 63, 0) else none) else (if pc < 20 then (if pc = 19 then some (.iconst 0, 1, 0, 0, 0, 0) else none) else (if pc = 20 then some (.aload_n 0, 1, 0, 0, 0, 0) else none))))) else (if pc < 34 then (if pc < 27 then (if pc < 24 then (if pc = 21 then some (.getfield 15, 3, 5, 1, 63, 0) else none) else (if pc < 25 then (if pc = 24 then some (.iconst 0, 1, 0, 0, 0, 0) else none) else (if pc = 25 then some (.bipush 6, 2, 0, 0, 0, 0) else none))) else (if pc < 30 then (if pc = 27 then some (.invokestatic 21, 3, 9999, 5, 253, 0) else none) else (if pc < 31 then (if pc = 30 then some (.aload_n 1, 1, 0, 0, 0, 0) else none) else (if pc = 31 then some (.getfield 18, 3, 5, 2, 65, 0) else none)))) else (if pc < 39 then (if pc < 35 then (if pc = 34 then some (.iconst 0, 1, 0, 0, 0, 0) else none) else (if pc < 36 then (if pc = 35 then some (.aload_n 0, 1, 0, 0, 0, 0) else none) else (if pc = 36 then some (.getfield 18, 3, 5, 2, 65, 0) else none))) else (if pc < 42 then (if pc < 40 then (if pc = 39 then some (.iconst 0, 1, 0, 0, 0, 0) else none) else (if pc = 40 then some (.bipush 18, 2, 0, 0, 0, 0) else none)) else (if pc < 45 then (if pc = 42 then some (.invokestatic 21, 3, 9999, 5, 253, 0) else none) else (if pc = 45 then some (.return_, 1, 0, 0, 0, 0) else none)))))
def f_X1_isDrawn (pc : Nat) : Option En := if pc < 14 then (if pc < 5 then (if pc < 1 then (if pc = 0 then some (.iload_n 1, 1, 0, 0, 0, 0) else none) else (if pc < 4 then (if pc = 1 then some (.ifCond .lt 24, 3, 25, 0, 0, 0) else none) else (if pc = 4 then some (.iload_n 1, 1, 0, 0, 0, 0) else none))) else (if pc < 10 then (if pc < 7 then (if pc = 5 then some (.bipush 6, 2, 0, 0, 0, 0) else none) else (if pc = 7 then some (.if_icmp .ge 18, 3, 25, 0, 0, 0) else none)) else (if pc < 11 then (if pc = 10 then some (.aload_n 0, 1, 0, 0, 0, 0) else none) else (if pc = 11 then some (.getfield 15, 3, 5, 1, 63, 0) else none)))) else (if pc < 21 then (if pc < 16 then (if pc < 15 then (if pc = 14 then some (.iload_n 1, 1, 0, 0, 0, 0) else none) else (if pc = 15 then some (.iaload, 1, 0, 0, 0, 0) else none)) else (if pc < 18 then (if pc = 16 then some (.bipush (-5), 2, 0, 0, 0, 0) else none) else (if pc = 18 then some (.if_icmp .eq 7, 3, 25, 0, 0, 0) else none))) else (if pc < 25 then (if pc < 22 then (if pc = 21 then some (.iconst 1, 1, 0, 0, 0, 0) else none) else (if pc = 22 then some (.goto 4, 3, 26, 0, 0, 0) else none)) else (if pc < 26 then (if pc = 25 then some (.iconst 0, 1, 0, 0, 0, 0) else none) else (if pc = 26 then some (.ireturn, 1, 0, 0, 0, 0) else none))))
def f_X1_pool (pc : Nat) : Option En := if pc < 14 then (if pc < 5 then (if pc < 1 then (if pc = 0 then some (.iload_n 1, 1, 0, 0, 0, 0) else none) else (if pc < 4 then (if pc = 1 then some (.ifCond .lt 21, 3, 22, 0, 0, 0) else none) else (if pc = 4 then some (.iload_n 1, 1, 0, 0, 0, 0) else none))) else (if pc < 10 then (if pc < 7 then (if pc = 5 then some (.bipush 6, 2, 0, 0, 0, 0) else none) else (if pc = 7 then some (.if_icmp .ge 15, 3, 22, 0, 0, 0) else none)) else (if pc < 11 then (if pc = 10 then some (.aload_n 0, 1, 0, 0, 0, 0) else none) else (if pc = 11 then some (.getfield 9, 3, 5, 0, 61, 0) else none)))) else (if pc < 18 then (if pc < 15 then (if pc = 14 then some (.iload_n 1, 1, 0, 0, 0, 0) else none) else (if pc < 16 then (if pc = 15 then some (.iaload, 1, 0, 0, 0, 0) else none) else (if pc = 16 then some (.bipush 10, 2, 0, 0, 0, 0) else none))) else (if pc < 22 then (if pc < 19 then (if pc = 18 then some (.imul, 1, 0, 0, 0, 0) else none) else (if pc = 19 then some (.goto 4, 3, 23, 0, 0, 0) else none)) else (if pc < 23 then (if pc = 22 then some (.iconst 0, 1, 0, 0, 0, 0) else none) else (if pc = 23 then some (.ireturn, 1, 0, 0, 0, 0) else none))))
def f_X1_allPools (pc : Nat) : Option En := if pc < 15 then (if pc < 5 then (if pc < 2 then (if pc < 1 then (if pc = 0 then some (.iconst 0, 1, 0, 0, 0, 0) else none) else (if pc = 1 then some (.istore_n 1, 1, 0, 0, 0, 0) else none)) else (if pc < 3 then (if pc = 2 then some (.iconst 0, 1, 0, 0, 0, 0) else none) else (if pc < 4 then (if pc = 3 then some (.istore_n 2, 1, 0, 0, 0, 0) else none) else (if pc = 4 then some (.iload_n 2, 1, 0, 0, 0, 0) else none)))) else (if pc < 10 then (if pc < 7 then (if pc = 5 then some (.bipush 6, 2, 0, 0, 0, 0) else none) else (if pc = 7 then some (.if_icmp .ge 21, 3, 28, 0, 0, 0) else none)) else (if pc < 11 then (if pc = 10 then some (.iload_n 1, 1, 0, 0, 0, 0) else none) else (if pc < 12 then (if pc = 11 then some (.aload_n 0, 1, 0, 0, 0, 0) else none) else (if pc = 12 then some (.getfield 9, 3, 5, 0, 61, 0) else none))))) else (if pc < 21 then (if pc < 17 then (if pc < 16 then (if pc = 15 then some (.iload_n 2, 1, 0, 0, 0, 0) else none) else (if pc = 16 then some (.iaload, 1, 0, 0, 0, 0) else none)) else (if pc < 19 then (if pc = 17 then some (.bipush 10, 2, 0, 0, 0, 0) else none) else (if pc < 20 then (if pc = 19 then some (.imul, 1, 0, 0, 0, 0) else none) else (if pc = 20 then some (.iadd, 1, 0, 0, 0, 0) else none)))) else (if pc < 25 then (if pc < 22 then (if pc = 21 then some (.istore_n 1, 1, 0, 0, 0, 0) else none) else (if pc = 22 then some (.iinc 2 1, 3, 0, 0, 0, 0) else none)) else (if pc < 28 then (if pc = 25 then some (.goto (-21), 3, 4, 0, 0, 0) else none) else (if pc < 29 then (if pc = 28 then some (.iload_n 1, 1, 0, 0, 0, 0) else none) else (if pc = 29 then some (.ireturn, 1, 0, 0, 0, 0) else none)))))
def f_X1_addWinner (pc : Nat) : Option En := if pc < 24 then (if pc < 11 then (if pc < 5 then (if pc < 1 then (if pc = 0 then some (.iload_n 1, 1, 0, 0, 0, 0) else none) else (if pc < 4 then (if pc = 1 then some (.ifCond .lt 35, 3, 36, 0, 0, 0) else none) else (if pc = 4 then some (.iload_n 1, 1, 0, 0, 0, 0) else none))) else (if pc < 7 then (if pc = 5 then some (.bipush 6, 2, 0, 0, 0, 0) else none) else (if pc < 10 then (if pc = 7 then some (.if_icmp .ge 29, 3, 36, 0, 0, 0) else none) else (if pc = 10 then some (.iload_n 2, 1, 0, 0, 0, 0) else none)))) else (if pc < 16 then (if pc < 12 then (if pc = 11 then some (.iconst 1, 1, 0, 0, 0, 0) else none) else (if pc < 15 then (if pc = 12 then some (.if_icmp .lt 24, 3, 36, 0, 0, 0) else none) else (if pc = 15 then some (.iload_n 2, 1, 0, 0, 0, 0) else none))) else (if pc < 20 then (if pc < 17 then (if pc = 16 then some (.iconst 3, 1, 0, 0, 0, 0) else none) else (if pc = 17 then some (.if_icmp .gt 19, 3, 36, 0, 0, 0) else none)) else (if pc < 21 then (if pc = 20 then some (.aload_n 0, 1, 0, 0, 0, 0) else none) else (if pc = 21 then some (.getfield 18, 3, 5, 2, 65, 0) else none))))) else (if pc < 30 then (if pc < 27 then (if pc < 25 then (if pc = 24 then some (.iload_n 1, 1, 0, 0, 0, 0) else none) else (if pc < 26 then (if pc = 25 then some (.iconst 3, 1, 0, 0, 0, 0) else none) else (if pc = 26 then some (.imul, 1, 0, 0, 0, 0) else none))) else (if pc < 28 then (if pc = 27 then some (.iload_n 2, 1, 0, 0, 0, 0) else none) else (if pc < 29 then (if pc = 28 then some (.iadd, 1, 0, 0, 0, 0) else none) else (if pc = 29 then some (.iconst 1, 1, 0, 0, 0, 0) else none)))) else (if pc < 33 then (if pc < 31 then (if pc = 30 then some (.isub, 1, 0, 0, 0, 0) else none) else (if pc < 32 then (if pc = 31 then some (.dup2, 1, 0, 0, 0, 0) else none) else (if pc = 32 then some (.iaload, 1, 0, 0, 0, 0) else none))) else (if pc < 35 then (if pc < 34 then (if pc = 33 then some (.iconst 1, 1, 0, 0, 0, 0) else none) else (if pc = 34 then some (.iadd, 1, 0, 0, 0, 0) else none)) else (if pc < 36 then (if pc = 35 then some (.iastore, 1, 0, 0, 0, 0) else none) else (if pc = 36 then some (.return_, 1, 0, 0, 0, 0) else none)))))
def f_X1_winnersOf (pc : Nat) : Option En := if pc < 21 then (if pc < 11 then (if pc < 5 then (if pc < 1 then (if pc = 0 then some (.iload_n 1, 1, 0, 0, 0, 0) else none) else (if pc < 4 then (if pc = 1 then some (.ifCond .lt 19, 3, 20, 0, 0, 0) else none) else (if pc = 4 then some (.iload_n 1, 1, 0, 0, 0, 0) else none))) else (if pc < 7 then (if pc = 5 then some (.bipush 6, 2, 0, 0, 0, 0) else none) else (if pc < 10 then (if pc = 7 then some (.if_icmp .ge 13, 3, 20, 0, 0, 0) else none) else (if pc = 10 then some (.iload_n 2, 1, 0, 0, 0, 0) else none)))) else (if pc < 16 then (if pc < 12 then (if pc = 11 then some (.iconst 1, 1, 0, 0, 0, 0) else none) else (if pc < 15 then (if pc = 12 then some (.if_icmp .lt 8, 3, 20, 0, 0, 0) else none) else (if pc = 15 then some (.iload_n 2, 1, 0, 0, 0, 0) else none))) else (if pc < 17 then (if pc = 16 then some (.iconst 3, 1, 0, 0, 0, 0) else none) else (if pc < 20 then (if pc = 17 then some (.if_icmp .le 5, 3, 22, 0, 0, 0) else none) else (if pc = 20 then some (.iconst 0, 1, 0, 0, 0, 0) else none))))) else (if pc < 29 then (if pc < 26 then (if pc < 22 then (if pc = 21 then some (.ireturn, 1, 0, 0, 0, 0) else none) else (if pc < 23 then (if pc = 22 then some (.aload_n 0, 1, 0, 0, 0, 0) else none) else (if pc = 23 then some (.getfield 18, 3, 5, 2, 65, 0) else none))) else (if pc < 27 then (if pc = 26 then some (.iload_n 1, 1, 0, 0, 0, 0) else none) else (if pc < 28 then (if pc = 27 then some (.iconst 3, 1, 0, 0, 0, 0) else none) else (if pc = 28 then some (.imul, 1, 0, 0, 0, 0) else none)))) else (if pc < 32 then (if pc < 30 then (if pc = 29 then some (.iload_n 2, 1, 0, 0, 0, 0) else none) else (if pc < 31 then (if pc = 30 then some (.iadd, 1, 0, 0, 0, 0) else none) else (if pc = 31 then some (.iconst 1, 1, 0, 0, 0, 0) else none))) else (if pc < 33 then (if pc = 32 then some (.isub, 1, 0, 0, 0, 0) else none) else (if pc < 34 then (if pc = 33 then some (.iaload, 1, 0, 0, 0, 0) else none) else (if pc = 34 then some (.ireturn, 1, 0, 0, 0, 0) else none)))))
def f_X1_prize (pc : Nat) : Option En := if pc < 32 then (if pc < 17 then (if pc < 10 then (if pc < 4 then (if pc < 1 then (if pc = 0 then some (.iload_n 1, 1, 0, 0, 0, 0) else none) else (if pc = 1 then some (.ifCond .lt 19, 3, 20, 0, 0, 0) else none)) else (if pc < 5 then (if pc = 4 then some (.iload_n 1, 1, 0, 0, 0, 0) else none) else (if pc < 7 then (if pc = 5 then some (.bipush 6, 2, 0, 0, 0, 0) else none) else (if pc = 7 then some (.if_icmp .ge 13, 3, 20, 0, 0, 0) else none)))) else (if pc < 12 then (if pc < 11 then (if pc = 10 then some (.iload_n 2, 1, 0, 0, 0, 0) else none) else (if pc = 11 then some (.iconst 1, 1, 0, 0, 0, 0) else none)) else (if pc < 15 then (if pc = 12 then some (.if_icmp .lt 8, 3, 20, 0, 0, 0) else none) else (if pc < 16 then (if pc = 15 then some (.iload_n 2, 1, 0, 0, 0, 0) else none) else (if pc = 16 then some (.iconst 3, 1, 0, 0, 0, 0) else none))))) else (if pc < 26 then (if pc < 21 then (if pc < 20 then (if pc = 17 then some (.if_icmp .le 5, 3, 22, 0, 0, 0) else none) else (if pc = 20 then some (.iconst 0, 1, 0, 0, 0, 0) else none)) else (if pc < 22 then (if pc = 21 then some (.ireturn, 1, 0, 0, 0, 0) else none) else (if pc < 23 then (if pc = 22 then some (.aload_n 0, 1, 0, 0, 0, 0) else none) else (if pc = 23 then some (.getfield 18, 3, 5, 2, 65, 0) else none)))) else (if pc < 29 then (if pc < 27 then (if pc = 26 then some (.iload_n 1, 1, 0, 0, 0, 0) else none) else (if pc < 28 then (if pc = 27 then some (.iconst 3, 1, 0, 0, 0, 0) else none) else (if pc = 28 then some (.imul, 1, 0, 0, 0, 0) else none))) else (if pc < 30 then (if pc = 29 then some (.iload_n 2, 1, 0, 0, 0, 0) else none) else (if pc < 31 then (if pc = 30 then some (.iadd, 1, 0, 0, 0, 0) else none) else (if pc = 31 then some (.iconst 1, 1, 0, 0, 0, 0) else none)))))) else (if pc < 47 then (if pc < 39 then (if pc < 34 then (if pc < 33 then (if pc = 32 then some (.isub, 1, 0, 0, 0, 0) else none) else (if pc = 33 then some (.iaload, 1, 0, 0, 0, 0) else none)) else (if pc < 35 then (if pc = 34 then some (.istore_n 3, 1, 0, 0, 0, 0) else none) else (if pc < 36 then (if pc = 35 then some (.iload_n 3, 1, 0, 0, 0, 0) else none) else (if pc = 36 then some (.ifCond .gt 5, 3, 41, 0, 0, 0) else none)))) else (if pc < 42 then (if pc < 40 then (if pc = 39 then some (.iconst 0, 1, 0, 0, 0, 0) else none) else (if pc < 41 then (if pc = 40 then some (.ireturn, 1, 0, 0, 0, 0) else none) else (if pc = 41 then some (.aload_n 0, 1, 0, 0, 0, 0) else none))) else (if pc < 45 then (if pc = 42 then some (.getfield 9, 3, 5, 0, 61, 0) else none) else (if pc < 46 then (if pc = 45 then some (.iload_n 1, 1, 0, 0, 0, 0) else none) else (if pc = 46 then some (.iaload, 1, 0, 0, 0, 0) else none))))) else (if pc < 55 then (if pc < 50 then (if pc < 49 then (if pc = 47 then some (.bipush 10, 2, 0, 0, 0, 0) else none) else (if pc = 49 then some (.imul, 1, 0, 0, 0, 0) else none)) else (if pc < 53 then (if pc = 50 then some (.getstatic 27, 3, 39, 0, 393, 1) else none) else (if pc < 54 then (if pc = 53 then some (.iload_n 2, 1, 0, 0, 0, 0) else none) else (if pc = 54 then some (.iaload, 1, 0, 0, 0, 0) else none)))) else (if pc < 59 then (if pc < 56 then (if pc = 55 then some (.imul, 1, 0, 0, 0, 0) else none) else (if pc < 58 then (if pc = 56 then some (.bipush 100, 2, 0, 0, 0, 0) else none) else (if pc = 58 then some (.idiv, 1, 0, 0, 0, 0) else none))) else (if pc < 60 then (if pc = 59 then some (.iload_n 3, 1, 0, 0, 0, 0) else none) else (if pc < 61 then (if pc = 60 then some (.idiv, 1, 0, 0, 0, 0) else none) else (if pc = 61 then some (.ireturn, 1, 0, 0, 0, 0) else none))))))
def f_X1_allPrizes (pc : Nat) : Option En := if pc < 13 then (if pc < 5 then (if pc < 2 then (if pc < 1 then (if pc = 0 then some (.iconst 0, 1, 0, 0, 0, 0) else none) else (if pc = 1 then some (.istore_n 2, 1, 0, 0, 0, 0) else none)) else (if pc < 3 then (if pc = 2 then some (.iconst 1, 1, 0, 0, 0, 0) else none) else (if pc < 4 then (if pc = 3 then some (.istore_n 3, 1, 0, 0, 0, 0) else none) else (if pc = 4 then some (.iload_n 3, 1, 0, 0, 0, 0) else none)))) else (if pc < 10 then (if pc < 6 then (if pc = 5 then some (.iconst 3, 1, 0, 0, 0, 0) else none) else (if pc < 9 then (if pc = 6 then some (.if_icmp .gt 25, 3, 31, 0, 0, 0) else none) else (if pc = 9 then some (.iload_n 2, 1, 0, 0, 0, 0) else none))) else (if pc < 11 then (if pc = 10 then some (.aload_n 0, 1, 0, 0, 0, 0) else none) else (if pc < 12 then (if pc = 11 then some (.iload_n 1, 1, 0, 0, 0, 0) else none) else (if pc = 12 then some (.iload_n 3, 1, 0, 0, 0, 0) else none))))) else (if pc < 23 then (if pc < 18 then (if pc < 16 then (if pc = 13 then some (.invokevirtual 30, 3, 9, 2, 575, 0) else none) else (if pc < 17 then (if pc = 16 then some (.aload_n 0, 1, 0, 0, 0, 0) else none) else (if pc = 17 then some (.iload_n 1, 1, 0, 0, 0, 0) else none))) else (if pc < 19 then (if pc = 18 then some (.iload_n 3, 1, 0, 0, 0, 0) else none) else (if pc < 22 then (if pc = 19 then some (.invokevirtual 34, 3, 10, 2, 583, 0) else none) else (if pc = 22 then some (.imul, 1, 0, 0, 0, 0) else none)))) else (if pc < 28 then (if pc < 24 then (if pc = 23 then some (.iadd, 1, 0, 0, 0, 0) else none) else (if pc < 25 then (if pc = 24 then some (.istore_n 2, 1, 0, 0, 0, 0) else none) else (if pc = 25 then some (.iinc 3 1, 3, 0, 0, 0, 0) else none))) else (if pc < 31 then (if pc = 28 then some (.goto (-24), 3, 4, 0, 0, 0) else none) else (if pc < 32 then (if pc = 31 then some (.iload_n 2, 1, 0, 0, 0, 0) else none) else (if pc = 32 then some (.ireturn, 1, 0, 0, 0, 0) else none)))))
def f_X1_tell (pc : Nat) : Option En := if pc < 80 then (if pc < 61 then (if pc < 53 then (if pc < 48 then (if pc < 1 then (if pc = 0 then some (.iload_n 2, 1, 0, 0, 0, 0) else none) else (if pc = 1 then some (.tableswitch 108 0 7 #[47, 53, 60, 74, 81, 88, 95, 102], 47, 0, 0, 0, 0) else none)) else (if pc < 49 then (if pc = 48 then some (.aload_n 0, 1, 0, 0, 0, 0) else none) else (if pc < 50 then (if pc = 49 then some (.iload_n 1, 1, 0, 0, 0, 0) else none) else (if pc = 50 then some (.invokevirtual 37, 3, 6, 1, 573, 0) else none)))) else (if pc < 58 then (if pc < 54 then (if pc = 53 then some (.ireturn, 1, 0, 0, 0, 0) else none) else (if pc < 55 then (if pc = 54 then some (.aload_n 0, 1, 0, 0, 0, 0) else none) else (if pc = 55 then some (.getfield 9, 3, 5, 0, 61, 0) else none))) else (if pc < 59 then (if pc = 58 then some (.iload_n 1, 1, 0, 0, 0, 0) else none) else (if pc < 60 then (if pc = 59 then some (.iaload, 1, 0, 0, 0, 0) else none) else (if pc = 60 then some (.ireturn, 1, 0, 0, 0, 0) else none))))) else (if pc < 70 then (if pc < 63 then (if pc < 62 then (if pc = 61 then some (.aload_n 0, 1, 0, 0, 0, 0) else none) else (if pc = 62 then some (.iload_n 1, 1, 0, 0, 0, 0) else none)) else (if pc < 66 then (if pc = 63 then some (.invokevirtual 41, 3, 5, 1, 574, 0) else none) else (if pc < 69 then (if pc = 66 then some (.ifCond .eq 7, 3, 73, 0, 0, 0) else none) else (if pc = 69 then some (.iconst 1, 1, 0, 0, 0, 0) else none)))) else (if pc < 75 then (if pc < 73 then (if pc = 70 then some (.goto 4, 3, 74, 0, 0, 0) else none) else (if pc < 74 then (if pc = 73 then some (.iconst 0, 1, 0, 0, 0, 0) else none) else (if pc = 74 then some (.ireturn, 1, 0, 0, 0, 0) else none))) else (if pc < 76 then (if pc = 75 then some (.aload_n 0, 1, 0, 0, 0, 0) else none) else (if pc < 79 then (if pc = 76 then some (.getfield 15, 3, 5, 1, 63, 0) else none) else (if pc = 79 then some (.iload_n 1, 1, 0, 0, 0, 0) else none)))))) else (if pc < 95 then (if pc < 85 then (if pc < 82 then (if pc < 81 then (if pc = 80 then some (.iaload, 1, 0, 0, 0, 0) else none) else (if pc = 81 then some (.ireturn, 1, 0, 0, 0, 0) else none)) else (if pc < 83 then (if pc = 82 then some (.aload_n 0, 1, 0, 0, 0, 0) else none) else (if pc < 84 then (if pc = 83 then some (.iload_n 1, 1, 0, 0, 0, 0) else none) else (if pc = 84 then some (.iconst 1, 1, 0, 0, 0, 0) else none)))) else (if pc < 90 then (if pc < 88 then (if pc = 85 then some (.invokevirtual 30, 3, 9, 2, 575, 0) else none) else (if pc < 89 then (if pc = 88 then some (.ireturn, 1, 0, 0, 0, 0) else none) else (if pc = 89 then some (.aload_n 0, 1, 0, 0, 0, 0) else none))) else (if pc < 91 then (if pc = 90 then some (.iload_n 1, 1, 0, 0, 0, 0) else none) else (if pc < 92 then (if pc = 91 then some (.iconst 2, 1, 0, 0, 0, 0) else none) else (if pc = 92 then some (.invokevirtual 30, 3, 9, 2, 575, 0) else none))))) else (if pc < 103 then (if pc < 98 then (if pc < 96 then (if pc = 95 then some (.ireturn, 1, 0, 0, 0, 0) else none) else (if pc < 97 then (if pc = 96 then some (.aload_n 0, 1, 0, 0, 0, 0) else none) else (if pc = 97 then some (.iload_n 1, 1, 0, 0, 0, 0) else none))) else (if pc < 99 then (if pc = 98 then some (.iconst 3, 1, 0, 0, 0, 0) else none) else (if pc < 102 then (if pc = 99 then some (.invokevirtual 30, 3, 9, 2, 575, 0) else none) else (if pc = 102 then some (.ireturn, 1, 0, 0, 0, 0) else none)))) else (if pc < 108 then (if pc < 104 then (if pc = 103 then some (.aload_n 0, 1, 0, 0, 0, 0) else none) else (if pc < 105 then (if pc = 104 then some (.iload_n 1, 1, 0, 0, 0, 0) else none) else (if pc = 105 then some (.invokevirtual 45, 3, 11, 1, 579, 0) else none))) else (if pc < 109 then (if pc = 108 then some (.ireturn, 1, 0, 0, 0, 0) else none) else (if pc < 111 then (if pc = 109 then some (.bipush (-2), 2, 0, 0, 0, 0) else none) else (if pc = 111 then some (.ireturn, 1, 0, 0, 0, 0) else none))))))
def f_X2_copyFrom (pc : Nat) : Option En := if pc < 18 then (if pc < 9 then (if pc < 2 then (if pc < 1 then (if pc = 0 then some (.aload_n 0, 1, 0, 0, 0, 0) else none) else (if pc = 1 then some (.aload_n 1, 1, 0, 0, 0, 0) else none)) else (if pc < 5 then (if pc = 2 then some (.getfield 18, 3, 18, 0, 111, 0) else none) else (if pc < 8 then (if pc = 5 then some (.putfield 18, 3, 18, 0, 111, 0) else none) else (if pc = 8 then some (.aload_n 1, 1, 0, 0, 0, 0) else none)))) else (if pc < 13 then (if pc < 12 then (if pc = 9 then some (.getfield 9, 3, 18, 1, 113, 0) else none) else (if pc = 12 then some (.iconst 0, 1, 0, 0, 0, 0) else none)) else (if pc < 14 then (if pc = 13 then some (.aload_n 0, 1, 0, 0, 0, 0) else none) else (if pc < 17 then (if pc = 14 then some (.getfield 9, 3, 18, 1, 113, 0) else none) else (if pc = 17 then some (.iconst 0, 1, 0, 0, 0, 0) else none))))) else (if pc < 29 then (if pc < 24 then (if pc < 21 then (if pc = 18 then some (.sipush 150, 3, 0, 0, 0, 0) else none) else (if pc = 21 then some (.invokestatic 22, 3, 9999, 5, 263, 0) else none)) else (if pc < 25 then (if pc = 24 then some (.aload_n 1, 1, 0, 0, 0, 0) else none) else (if pc < 28 then (if pc = 25 then some (.getfield 15, 3, 18, 2, 114, 0) else none) else (if pc = 28 then some (.iconst 0, 1, 0, 0, 0, 0) else none)))) else (if pc < 34 then (if pc < 30 then (if pc = 29 then some (.aload_n 0, 1, 0, 0, 0, 0) else none) else (if pc < 33 then (if pc = 30 then some (.getfield 15, 3, 18, 2, 114, 0) else none) else (if pc = 33 then some (.iconst 0, 1, 0, 0, 0, 0) else none))) else (if pc < 37 then (if pc = 34 then some (.sipush 150, 3, 0, 0, 0, 0) else none) else (if pc < 40 then (if pc = 37 then some (.invokestatic 22, 3, 9999, 5, 263, 0) else none) else (if pc = 40 then some (.return_, 1, 0, 0, 0, 0) else none)))))
def f_X2_send (pc : Nat) : Option En := if pc < 30 then (if pc < 15 then (if pc < 7 then (if pc < 1 then (if pc = 0 then some (.aload_n 0, 1, 0, 0, 0, 0) else none) else (if pc < 4 then (if pc = 1 then some (.getfield 18, 3, 18, 0, 111, 0) else none) else (if pc = 4 then some (.sipush 150, 3, 0, 0, 0, 0) else none))) else (if pc < 11 then (if pc < 10 then (if pc = 7 then some (.if_icmp .ge 44, 3, 51, 0, 0, 0) else none) else (if pc = 10 then some (.aload_n 0, 1, 0, 0, 0, 0) else none)) else (if pc < 14 then (if pc = 11 then some (.getfield 9, 3, 18, 1, 113, 0) else none) else (if pc = 14 then some (.aload_n 0, 1, 0, 0, 0, 0) else none)))) else (if pc < 22 then (if pc < 20 then (if pc < 18 then (if pc = 15 then some (.getfield 18, 3, 18, 0, 111, 0) else none) else (if pc = 18 then some (.iload 4, 2, 0, 0, 0, 0) else none)) else (if pc < 21 then (if pc = 20 then some (.iastore, 1, 0, 0, 0, 0) else none) else (if pc = 21 then some (.aload_n 0, 1, 0, 0, 0, 0) else none))) else (if pc < 26 then (if pc < 25 then (if pc = 22 then some (.getfield 15, 3, 18, 2, 114, 0) else none) else (if pc = 25 then some (.aload_n 0, 1, 0, 0, 0, 0) else none)) else (if pc < 29 then (if pc = 26 then some (.getfield 18, 3, 18, 0, 111, 0) else none) else (if pc = 29 then some (.iload_n 1, 1, 0, 0, 0, 0) else none))))) else (if pc < 40 then (if pc < 34 then (if pc < 32 then (if pc < 31 then (if pc = 30 then some (.iconst 3, 1, 0, 0, 0, 0) else none) else (if pc = 31 then some (.imul, 1, 0, 0, 0, 0) else none)) else (if pc < 33 then (if pc = 32 then some (.iload_n 2, 1, 0, 0, 0, 0) else none) else (if pc = 33 then some (.iadd, 1, 0, 0, 0, 0) else none))) else (if pc < 38 then (if pc < 37 then (if pc = 34 then some (.sipush 600, 3, 0, 0, 0, 0) else none) else (if pc = 37 then some (.imul, 1, 0, 0, 0, 0) else none)) else (if pc < 39 then (if pc = 38 then some (.iload_n 3, 1, 0, 0, 0, 0) else none) else (if pc = 39 then some (.iadd, 1, 0, 0, 0, 0) else none)))) else (if pc < 46 then (if pc < 42 then (if pc < 41 then (if pc = 40 then some (.iastore, 1, 0, 0, 0, 0) else none) else (if pc = 41 then some (.aload_n 0, 1, 0, 0, 0, 0) else none)) else (if pc < 43 then (if pc = 42 then some (.dup, 1, 0, 0, 0, 0) else none) else (if pc = 43 then some (.getfield 18, 3, 18, 0, 111, 0) else none))) else (if pc < 48 then (if pc < 47 then (if pc = 46 then some (.iconst 1, 1, 0, 0, 0, 0) else none) else (if pc = 47 then some (.iadd, 1, 0, 0, 0, 0) else none)) else (if pc < 51 then (if pc = 48 then some (.putfield 18, 3, 18, 0, 111, 0) else none) else (if pc = 51 then some (.return_, 1, 0, 0, 0, 0) else none)))))
def f_X2_isDue (pc : Nat) : Option En := if pc < 7 then (if pc < 4 then (if pc < 1 then (if pc = 0 then some (.aload_n 0, 1, 0, 0, 0, 0) else none) else (if pc = 1 then some (.getfield 9, 3, 18, 1, 113, 0) else none)) else (if pc < 5 then (if pc = 4 then some (.iload_n 1, 1, 0, 0, 0, 0) else none) else (if pc < 6 then (if pc = 5 then some (.iaload, 1, 0, 0, 0, 0) else none) else (if pc = 6 then some (.iload_n 2, 1, 0, 0, 0, 0) else none)))) else (if pc < 11 then (if pc < 10 then (if pc = 7 then some (.if_icmp .gt 7, 3, 14, 0, 0, 0) else none) else (if pc = 10 then some (.iconst 1, 1, 0, 0, 0, 0) else none)) else (if pc < 14 then (if pc = 11 then some (.goto 4, 3, 15, 0, 0, 0) else none) else (if pc < 15 then (if pc = 14 then some (.iconst 0, 1, 0, 0, 0, 0) else none) else (if pc = 15 then some (.ireturn, 1, 0, 0, 0, 0) else none))))
def f_X2_kindOfMessage (pc : Nat) : Option En := if pc < 6 then (if pc < 4 then (if pc < 1 then (if pc = 0 then some (.aload_n 0, 1, 0, 0, 0, 0) else none) else (if pc = 1 then some (.getfield 15, 3, 18, 2, 114, 0) else none)) else (if pc < 5 then (if pc = 4 then some (.iload_n 1, 1, 0, 0, 0, 0) else none) else (if pc = 5 then some (.iaload, 1, 0, 0, 0, 0) else none))) else (if pc < 10 then (if pc < 9 then (if pc = 6 then some (.sipush 600, 3, 0, 0, 0, 0) else none) else (if pc = 9 then some (.idiv, 1, 0, 0, 0, 0) else none)) else (if pc < 11 then (if pc = 10 then some (.iconst 3, 1, 0, 0, 0, 0) else none) else (if pc < 12 then (if pc = 11 then some (.idiv, 1, 0, 0, 0, 0) else none) else (if pc = 12 then some (.ireturn, 1, 0, 0, 0, 0) else none))))
def f_X2_windowOfMessage (pc : Nat) : Option En := if pc < 6 then (if pc < 4 then (if pc < 1 then (if pc = 0 then some (.aload_n 0, 1, 0, 0, 0, 0) else none) else (if pc = 1 then some (.getfield 15, 3, 18, 2, 114, 0) else none)) else (if pc < 5 then (if pc = 4 then some (.iload_n 1, 1, 0, 0, 0, 0) else none) else (if pc = 5 then some (.iaload, 1, 0, 0, 0, 0) else none))) else (if pc < 10 then (if pc < 9 then (if pc = 6 then some (.sipush 600, 3, 0, 0, 0, 0) else none) else (if pc = 9 then some (.idiv, 1, 0, 0, 0, 0) else none)) else (if pc < 11 then (if pc = 10 then some (.iconst 3, 1, 0, 0, 0, 0) else none) else (if pc < 12 then (if pc = 11 then some (.irem, 1, 0, 0, 0, 0) else none) else (if pc = 12 then some (.ireturn, 1, 0, 0, 0, 0) else none))))
def f_X2_ticketOfMessage (pc : Nat) : Option En := if pc < 5 then (if pc < 1 then (if pc = 0 then some (.aload_n 0, 1, 0, 0, 0, 0) else none) else (if pc < 4 then (if pc = 1 then some (.getfield 15, 3, 18, 2, 114, 0) else none) else (if pc = 4 then some (.iload_n 1, 1, 0, 0, 0, 0) else none))) else (if pc < 9 then (if pc < 6 then (if pc = 5 then some (.iaload, 1, 0, 0, 0, 0) else none) else (if pc = 6 then some (.sipush 600, 3, 0, 0, 0, 0) else none)) else (if pc < 10 then (if pc = 9 then some (.irem, 1, 0, 0, 0, 0) else none) else (if pc = 10 then some (.ireturn, 1, 0, 0, 0, 0) else none)))
def f_X2_dropDue (pc : Nat) : Option En := if pc < 28 then (if pc < 13 then (if pc < 4 then (if pc < 2 then (if pc < 1 then (if pc = 0 then some (.iconst 0, 1, 0, 0, 0, 0) else none) else (if pc = 1 then some (.istore_n 2, 1, 0, 0, 0, 0) else none)) else (if pc < 3 then (if pc = 2 then some (.iconst 0, 1, 0, 0, 0, 0) else none) else (if pc = 3 then some (.istore_n 3, 1, 0, 0, 0, 0) else none))) else (if pc < 6 then (if pc < 5 then (if pc = 4 then some (.iload_n 3, 1, 0, 0, 0, 0) else none) else (if pc = 5 then some (.aload_n 0, 1, 0, 0, 0, 0) else none)) else (if pc < 9 then (if pc = 6 then some (.getfield 18, 3, 18, 0, 111, 0) else none) else (if pc < 12 then (if pc = 9 then some (.if_icmp .ge 46, 3, 55, 0, 0, 0) else none) else (if pc = 12 then some (.aload_n 0, 1, 0, 0, 0, 0) else none))))) else (if pc < 19 then (if pc < 17 then (if pc < 16 then (if pc = 13 then some (.getfield 9, 3, 18, 1, 113, 0) else none) else (if pc = 16 then some (.iload_n 3, 1, 0, 0, 0, 0) else none)) else (if pc < 18 then (if pc = 17 then some (.iaload, 1, 0, 0, 0, 0) else none) else (if pc = 18 then some (.iload_n 1, 1, 0, 0, 0, 0) else none))) else (if pc < 23 then (if pc < 22 then (if pc = 19 then some (.if_icmp .le 30, 3, 49, 0, 0, 0) else none) else (if pc = 22 then some (.aload_n 0, 1, 0, 0, 0, 0) else none)) else (if pc < 26 then (if pc = 23 then some (.getfield 9, 3, 18, 1, 113, 0) else none) else (if pc < 27 then (if pc = 26 then some (.iload_n 2, 1, 0, 0, 0, 0) else none) else (if pc = 27 then some (.aload_n 0, 1, 0, 0, 0, 0) else none)))))) else (if pc < 43 then (if pc < 34 then (if pc < 32 then (if pc < 31 then (if pc = 28 then some (.getfield 9, 3, 18, 1, 113, 0) else none) else (if pc = 31 then some (.iload_n 3, 1, 0, 0, 0, 0) else none)) else (if pc < 33 then (if pc = 32 then some (.iaload, 1, 0, 0, 0, 0) else none) else (if pc = 33 then some (.iastore, 1, 0, 0, 0, 0) else none))) else (if pc < 38 then (if pc < 35 then (if pc = 34 then some (.aload_n 0, 1, 0, 0, 0, 0) else none) else (if pc = 35 then some (.getfield 15, 3, 18, 2, 114, 0) else none)) else (if pc < 39 then (if pc = 38 then some (.iload_n 2, 1, 0, 0, 0, 0) else none) else (if pc < 40 then (if pc = 39 then some (.aload_n 0, 1, 0, 0, 0, 0) else none) else (if pc = 40 then some (.getfield 15, 3, 18, 2, 114, 0) else none))))) else (if pc < 52 then (if pc < 45 then (if pc < 44 then (if pc = 43 then some (.iload_n 3, 1, 0, 0, 0, 0) else none) else (if pc = 44 then some (.iaload, 1, 0, 0, 0, 0) else none)) else (if pc < 46 then (if pc = 45 then some (.iastore, 1, 0, 0, 0, 0) else none) else (if pc < 49 then (if pc = 46 then some (.iinc 2 1, 3, 0, 0, 0, 0) else none) else (if pc = 49 then some (.iinc 3 1, 3, 0, 0, 0, 0) else none)))) else (if pc < 56 then (if pc < 55 then (if pc = 52 then some (.goto (-48), 3, 4, 0, 0, 0) else none) else (if pc = 55 then some (.aload_n 0, 1, 0, 0, 0, 0) else none)) else (if pc < 57 then (if pc = 56 then some (.iload_n 2, 1, 0, 0, 0, 0) else none) else (if pc < 60 then (if pc = 57 then some (.putfield 18, 3, 18, 0, 111, 0) else none) else (if pc = 60 then some (.return_, 1, 0, 0, 0, 0) else none))))))
def f_X3_copyFrom (pc : Nat) : Option En := if pc < 53 then (if pc < 25 then (if pc < 10 then (if pc < 5 then (if pc < 1 then (if pc = 0 then some (.aload_n 0, 1, 0, 0, 0, 0) else none) else (if pc < 2 then (if pc = 1 then some (.aload_n 1, 1, 0, 0, 0, 0) else none) else (if pc = 2 then some (.getfield 57, 3, 0, 0, 140, 0) else none))) else (if pc < 8 then (if pc = 5 then some (.putfield 57, 3, 0, 0, 140, 0) else none) else (if pc < 9 then (if pc = 8 then some (.aload_n 0, 1, 0, 0, 0, 0) else none) else (if pc = 9 then some (.aload_n 1, 1, 0, 0, 0, 0) else none)))) else (if pc < 17 then (if pc < 13 then (if pc = 10 then some (.getfield 9, 3, 0, 1, 141, 0) else none) else (if pc < 16 then (if pc = 13 then some (.putfield 9, 3, 0, 1, 141, 0) else none) else (if pc = 16 then some (.aload_n 1, 1, 0, 0, 0, 0) else none))) else (if pc < 21 then (if pc < 20 then (if pc = 17 then some (.getfield 15, 3, 0, 2, 142, 0) else none) else (if pc = 20 then some (.iconst 0, 1, 0, 0, 0, 0) else none)) else (if pc < 22 then (if pc = 21 then some (.aload_n 0, 1, 0, 0, 0, 0) else none) else (if pc = 22 then some (.getfield 15, 3, 0, 2, 142, 0) else none))))) else (if pc < 38 then (if pc < 30 then (if pc < 26 then (if pc = 25 then some (.iconst 0, 1, 0, 0, 0, 0) else none) else (if pc < 27 then (if pc = 26 then some (.iconst 3, 1, 0, 0, 0, 0) else none) else (if pc = 27 then some (.invokestatic 60, 3, 9999, 5, 241, 0) else none))) else (if pc < 34 then (if pc < 31 then (if pc = 30 then some (.aload_n 0, 1, 0, 0, 0, 0) else none) else (if pc = 31 then some (.getfield 25, 3, 0, 3, 144, 0) else none)) else (if pc < 35 then (if pc = 34 then some (.aload_n 1, 1, 0, 0, 0, 0) else none) else (if pc = 35 then some (.getfield 25, 3, 0, 3, 144, 0) else none)))) else (if pc < 45 then (if pc < 41 then (if pc = 38 then some (.invokevirtual 66, 3, 43, 1, 244, 0) else none) else (if pc < 42 then (if pc = 41 then some (.aload_n 0, 1, 0, 0, 0, 0) else none) else (if pc = 42 then some (.getfield 32, 3, 0, 4, 146, 0) else none))) else (if pc < 49 then (if pc < 46 then (if pc = 45 then some (.aload_n 1, 1, 0, 0, 0, 0) else none) else (if pc = 46 then some (.getfield 32, 3, 0, 4, 146, 0) else none)) else (if pc < 52 then (if pc = 49 then some (.invokevirtual 70, 3, 4, 1, 249, 0) else none) else (if pc = 52 then some (.aload_n 0, 1, 0, 0, 0, 0) else none)))))) else (if pc < 82 then (if pc < 67 then (if pc < 60 then (if pc < 56 then (if pc = 53 then some (.getfield 39, 3, 0, 5, 148, 0) else none) else (if pc < 57 then (if pc = 56 then some (.aload_n 1, 1, 0, 0, 0, 0) else none) else (if pc = 57 then some (.getfield 39, 3, 0, 5, 148, 0) else none))) else (if pc < 63 then (if pc = 60 then some (.invokevirtual 73, 3, 52, 1, 254, 0) else none) else (if pc < 64 then (if pc = 63 then some (.aload_n 0, 1, 0, 0, 0, 0) else none) else (if pc = 64 then some (.getfield 46, 3, 0, 6, 150, 0) else none)))) else (if pc < 74 then (if pc < 68 then (if pc = 67 then some (.aload_n 1, 1, 0, 0, 0, 0) else none) else (if pc < 71 then (if pc = 68 then some (.getfield 46, 3, 0, 6, 150, 0) else none) else (if pc = 71 then some (.invokevirtual 76, 3, 13, 1, 259, 0) else none))) else (if pc < 78 then (if pc < 75 then (if pc = 74 then some (.aload_n 0, 1, 0, 0, 0, 0) else none) else (if pc = 75 then some (.getfield 53, 3, 0, 7, 151, 0) else none)) else (if pc < 79 then (if pc = 78 then some (.aload_n 1, 1, 0, 0, 0, 0) else none) else (if pc = 79 then some (.getfield 53, 3, 0, 7, 151, 0) else none))))) else (if pc < 95 then (if pc < 87 then (if pc < 85 then (if pc = 82 then some (.invokevirtual 79, 3, 1, 1, 264, 0) else none) else (if pc < 86 then (if pc = 85 then some (.aload_n 0, 1, 0, 0, 0, 0) else none) else (if pc = 86 then some (.aload_n 1, 1, 0, 0, 0, 0) else none))) else (if pc < 93 then (if pc < 90 then (if pc = 87 then some (.getfield 82, 3, 0, 8, 152, 0) else none) else (if pc = 90 then some (.putfield 82, 3, 0, 8, 152, 0) else none)) else (if pc < 94 then (if pc = 93 then some (.aload_n 0, 1, 0, 0, 0, 0) else none) else (if pc = 94 then some (.aload_n 1, 1, 0, 0, 0, 0) else none)))) else (if pc < 102 then (if pc < 98 then (if pc = 95 then some (.getfield 85, 3, 0, 9, 154, 0) else none) else (if pc < 101 then (if pc = 98 then some (.putfield 85, 3, 0, 9, 154, 0) else none) else (if pc = 101 then some (.aload_n 0, 1, 0, 0, 0, 0) else none))) else (if pc < 106 then (if pc < 103 then (if pc = 102 then some (.aload_n 1, 1, 0, 0, 0, 0) else none) else (if pc = 103 then some (.getfield 88, 3, 0, 10, 156, 0) else none)) else (if pc < 109 then (if pc = 106 then some (.putfield 88, 3, 0, 10, 156, 0) else none) else (if pc = 109 then some (.return_, 1, 0, 0, 0, 0) else none))))))
def f_X3_sellTicket (pc : Nat) : Option En := if pc < 37 then (if pc < 15 then (if pc < 9 then (if pc < 4 then (if pc < 1 then (if pc = 0 then some (.iload_n 1, 1, 0, 0, 0, 0) else none) else (if pc = 1 then some (.invokestatic 91, 3, 90, 1, 273, 1) else none)) else (if pc < 7 then (if pc = 4 then some (.ifCond .ne 5, 3, 9, 0, 0, 0) else none) else (if pc < 8 then (if pc = 7 then some (.iconst (-1), 1, 0, 0, 0, 0) else none) else (if pc = 8 then some (.ireturn, 1, 0, 0, 0, 0) else none)))) else (if pc < 12 then (if pc < 10 then (if pc = 9 then some (.iload_n 1, 1, 0, 0, 0, 0) else none) else (if pc = 10 then some (.bipush 100, 2, 0, 0, 0, 0) else none)) else (if pc < 13 then (if pc = 12 then some (.idiv, 1, 0, 0, 0, 0) else none) else (if pc < 14 then (if pc = 13 then some (.istore_n 2, 1, 0, 0, 0, 0) else none) else (if pc = 14 then some (.aload_n 0, 1, 0, 0, 0, 0) else none))))) else (if pc < 27 then (if pc < 19 then (if pc < 18 then (if pc = 15 then some (.getfield 32, 3, 0, 4, 146, 0) else none) else (if pc = 18 then some (.iload_n 2, 1, 0, 0, 0, 0) else none)) else (if pc < 22 then (if pc = 19 then some (.invokevirtual 95, 3, 5, 1, 276, 0) else none) else (if pc < 25 then (if pc = 22 then some (.ifCond .eq 6, 3, 28, 0, 0, 0) else none) else (if pc = 25 then some (.bipush (-4), 2, 0, 0, 0, 0) else none)))) else (if pc < 32 then (if pc < 28 then (if pc = 27 then some (.ireturn, 1, 0, 0, 0, 0) else none) else (if pc < 29 then (if pc = 28 then some (.aload_n 0, 1, 0, 0, 0, 0) else none) else (if pc = 29 then some (.getfield 25, 3, 0, 3, 144, 0) else none))) else (if pc < 33 then (if pc = 32 then some (.iload_n 1, 1, 0, 0, 0, 0) else none) else (if pc < 34 then (if pc = 33 then some (.iconst 1, 1, 0, 0, 0, 0) else none) else (if pc = 34 then some (.invokevirtual 98, 3, 44, 2, 280, 0) else none)))))) else (if pc < 59 then (if pc < 47 then (if pc < 42 then (if pc < 40 then (if pc = 37 then some (.ifCond .eq 6, 3, 43, 0, 0, 0) else none) else (if pc = 40 then some (.bipush (-5), 2, 0, 0, 0, 0) else none)) else (if pc < 43 then (if pc = 42 then some (.ireturn, 1, 0, 0, 0, 0) else none) else (if pc < 44 then (if pc = 43 then some (.aload_n 0, 1, 0, 0, 0, 0) else none) else (if pc = 44 then some (.getfield 25, 3, 0, 3, 144, 0) else none)))) else (if pc < 52 then (if pc < 48 then (if pc = 47 then some (.iload_n 1, 1, 0, 0, 0, 0) else none) else (if pc < 49 then (if pc = 48 then some (.iconst 1, 1, 0, 0, 0, 0) else none) else (if pc = 49 then some (.invokevirtual 102, 3, 45, 2, 284, 0) else none))) else (if pc < 53 then (if pc = 52 then some (.aload_n 0, 1, 0, 0, 0, 0) else none) else (if pc < 56 then (if pc = 53 then some (.getfield 32, 3, 0, 4, 146, 0) else none) else (if pc = 56 then some (.getfield 106, 3, 5, 0, 62, 0) else none))))) else (if pc < 64 then (if pc < 61 then (if pc < 60 then (if pc = 59 then some (.iload_n 2, 1, 0, 0, 0, 0) else none) else (if pc = 60 then some (.dup2, 1, 0, 0, 0, 0) else none)) else (if pc < 62 then (if pc = 61 then some (.iaload, 1, 0, 0, 0, 0) else none) else (if pc < 63 then (if pc = 62 then some (.iconst 1, 1, 0, 0, 0, 0) else none) else (if pc = 63 then some (.iadd, 1, 0, 0, 0, 0) else none)))) else (if pc < 69 then (if pc < 65 then (if pc = 64 then some (.iastore, 1, 0, 0, 0, 0) else none) else (if pc < 66 then (if pc = 65 then some (.aload_n 0, 1, 0, 0, 0, 0) else none) else (if pc = 66 then some (.getfield 32, 3, 0, 4, 146, 0) else none))) else (if pc < 70 then (if pc = 69 then some (.iload_n 2, 1, 0, 0, 0, 0) else none) else (if pc < 73 then (if pc = 70 then some (.invokevirtual 109, 3, 6, 1, 288, 0) else none) else (if pc = 73 then some (.ireturn, 1, 0, 0, 0, 0) else none))))))
def f_X3_drawByLot (pc : Nat) : Option En := if pc < 61 then (if pc < 33 then (if pc < 17 then (if pc < 8 then (if pc < 4 then (if pc < 1 then (if pc = 0 then some (.iload_n 1, 1, 0, 0, 0, 0) else none) else (if pc = 1 then some (.invokestatic 113, 3, 91, 1, 625, 1) else none)) else (if pc < 7 then (if pc = 4 then some (.ifCond .ne 5, 3, 9, 0, 0, 0) else none) else (if pc = 7 then some (.iconst (-1), 1, 0, 0, 0, 0) else none))) else (if pc < 10 then (if pc < 9 then (if pc = 8 then some (.ireturn, 1, 0, 0, 0, 0) else none) else (if pc = 9 then some (.aload_n 0, 1, 0, 0, 0, 0) else none)) else (if pc < 13 then (if pc = 10 then some (.getfield 32, 3, 0, 4, 146, 0) else none) else (if pc < 14 then (if pc = 13 then some (.iload_n 1, 1, 0, 0, 0, 0) else none) else (if pc = 14 then some (.invokevirtual 95, 3, 5, 1, 276, 0) else none))))) else (if pc < 24 then (if pc < 22 then (if pc < 20 then (if pc = 17 then some (.ifCond .eq 6, 3, 23, 0, 0, 0) else none) else (if pc = 20 then some (.bipush (-4), 2, 0, 0, 0, 0) else none)) else (if pc < 23 then (if pc = 22 then some (.ireturn, 1, 0, 0, 0, 0) else none) else (if pc = 23 then some (.aload_n 0, 1, 0, 0, 0, 0) else none))) else (if pc < 27 then (if pc < 26 then (if pc = 24 then some (.bipush 75, 2, 0, 0, 0, 0) else none) else (if pc = 26 then some (.aload_n 0, 1, 0, 0, 0, 0) else none)) else (if pc < 30 then (if pc = 27 then some (.getfield 9, 3, 0, 1, 141, 0) else none) else (if pc < 31 then (if pc = 30 then some (.imul, 1, 0, 0, 0, 0) else none) else (if pc = 31 then some (.bipush 74, 2, 0, 0, 0, 0) else none)))))) else (if pc < 48 then (if pc < 40 then (if pc < 36 then (if pc < 34 then (if pc = 33 then some (.iadd, 1, 0, 0, 0, 0) else none) else (if pc = 34 then some (.ldc 116, 2, 65537, 0, 626, 0) else none)) else (if pc < 37 then (if pc = 36 then some (.irem, 1, 0, 0, 0, 0) else none) else (if pc = 37 then some (.putfield 9, 3, 0, 1, 141, 0) else none))) else (if pc < 44 then (if pc < 41 then (if pc = 40 then some (.aload_n 0, 1, 0, 0, 0, 0) else none) else (if pc = 41 then some (.getfield 9, 3, 0, 1, 141, 0) else none)) else (if pc < 46 then (if pc = 44 then some (.bipush 100, 2, 0, 0, 0, 0) else none) else (if pc < 47 then (if pc = 46 then some (.irem, 1, 0, 0, 0, 0) else none) else (if pc = 47 then some (.istore_n 2, 1, 0, 0, 0, 0) else none))))) else (if pc < 56 then (if pc < 52 then (if pc < 49 then (if pc = 48 then some (.aload_n 0, 1, 0, 0, 0, 0) else none) else (if pc = 49 then some (.getfield 32, 3, 0, 4, 146, 0) else none)) else (if pc < 55 then (if pc = 52 then some (.getfield 117, 3, 5, 1, 64, 0) else none) else (if pc = 55 then some (.iload_n 1, 1, 0, 0, 0, 0) else none))) else (if pc < 58 then (if pc < 57 then (if pc = 56 then some (.iload_n 2, 1, 0, 0, 0, 0) else none) else (if pc = 57 then some (.iastore, 1, 0, 0, 0, 0) else none)) else (if pc < 59 then (if pc = 58 then some (.iconst 0, 1, 0, 0, 0, 0) else none) else (if pc < 60 then (if pc = 59 then some (.istore_n 3, 1, 0, 0, 0, 0) else none) else (if pc = 60 then some (.iload_n 3, 1, 0, 0, 0, 0) else none))))))) else (if pc < 93 then (if pc < 75 then (if pc < 69 then (if pc < 66 then (if pc < 63 then (if pc = 61 then some (.bipush 100, 2, 0, 0, 0, 0) else none) else (if pc = 63 then some (.if_icmp .ge 66, 3, 129, 0, 0, 0) else none)) else (if pc < 67 then (if pc = 66 then some (.iload_n 1, 1, 0, 0, 0, 0) else none) else (if pc = 67 then some (.bipush 100, 2, 0, 0, 0, 0) else none))) else (if pc < 71 then (if pc < 70 then (if pc = 69 then some (.imul, 1, 0, 0, 0, 0) else none) else (if pc = 70 then some (.iload_n 3, 1, 0, 0, 0, 0) else none)) else (if pc < 72 then (if pc = 71 then some (.iadd, 1, 0, 0, 0, 0) else none) else (if pc < 74 then (if pc = 72 then some (.istore 4, 2, 0, 0, 0, 0) else none) else (if pc = 74 then some (.iload_n 3, 1, 0, 0, 0, 0) else none))))) else (if pc < 83 then (if pc < 79 then (if pc < 76 then (if pc = 75 then some (.iload_n 2, 1, 0, 0, 0, 0) else none) else (if pc = 76 then some (.invokestatic 120, 3, 23, 2, 627, 0) else none)) else (if pc < 81 then (if pc = 79 then some (.istore 5, 2, 0, 0, 0, 0) else none) else (if pc = 81 then some (.iload 5, 2, 0, 0, 0, 0) else none))) else (if pc < 87 then (if pc < 86 then (if pc = 83 then some (.ifCond .le 40, 3, 123, 0, 0, 0) else none) else (if pc = 86 then some (.aload_n 0, 1, 0, 0, 0, 0) else none)) else (if pc < 90 then (if pc = 87 then some (.getfield 25, 3, 0, 3, 144, 0) else none) else (if pc < 92 then (if pc = 90 then some (.iload 4, 2, 0, 0, 0, 0) else none) else (if pc = 92 then some (.iconst 1, 1, 0, 0, 0, 0) else none)))))) else (if pc < 113 then (if pc < 103 then (if pc < 99 then (if pc < 96 then (if pc = 93 then some (.invokevirtual 98, 3, 44, 2, 280, 0) else none) else (if pc = 96 then some (.ifCond .eq 27, 3, 123, 0, 0, 0) else none)) else (if pc < 100 then (if pc = 99 then some (.aload_n 0, 1, 0, 0, 0, 0) else none) else (if pc = 100 then some (.getfield 25, 3, 0, 3, 144, 0) else none))) else (if pc < 107 then (if pc < 105 then (if pc = 103 then some (.iload 4, 2, 0, 0, 0, 0) else none) else (if pc = 105 then some (.bipush 8, 2, 0, 0, 0, 0) else none)) else (if pc < 109 then (if pc = 107 then some (.iload 5, 2, 0, 0, 0, 0) else none) else (if pc < 110 then (if pc = 109 then some (.imul, 1, 0, 0, 0, 0) else none) else (if pc = 110 then some (.invokevirtual 102, 3, 45, 2, 284, 0) else none))))) else (if pc < 120 then (if pc < 117 then (if pc < 114 then (if pc = 113 then some (.aload_n 0, 1, 0, 0, 0, 0) else none) else (if pc = 114 then some (.getfield 32, 3, 0, 4, 146, 0) else none)) else (if pc < 118 then (if pc = 117 then some (.iload_n 1, 1, 0, 0, 0, 0) else none) else (if pc = 118 then some (.iload 5, 2, 0, 0, 0, 0) else none))) else (if pc < 126 then (if pc < 123 then (if pc = 120 then some (.invokevirtual 124, 3, 8, 2, 630, 0) else none) else (if pc = 123 then some (.iinc 3 1, 3, 0, 0, 0, 0) else none)) else (if pc < 129 then (if pc = 126 then some (.goto (-66), 3, 60, 0, 0, 0) else none) else (if pc < 130 then (if pc = 129 then some (.iload_n 2, 1, 0, 0, 0, 0) else none) else (if pc = 130 then some (.ireturn, 1, 0, 0, 0, 0) else none)))))))
def f_X3_classOfNumber (pc : Nat) : Option En := if pc < 18 then (if pc < 8 then (if pc < 5 then (if pc < 1 then (if pc = 0 then some (.iload_n 0, 1, 0, 0, 0, 0) else none) else (if pc < 2 then (if pc = 1 then some (.iload_n 1, 1, 0, 0, 0, 0) else none) else (if pc = 2 then some (.if_icmp .ne 5, 3, 7, 0, 0, 0) else none))) else (if pc < 6 then (if pc = 5 then some (.iconst 1, 1, 0, 0, 0, 0) else none) else (if pc < 7 then (if pc = 6 then some (.ireturn, 1, 0, 0, 0, 0) else none) else (if pc = 7 then some (.iload_n 0, 1, 0, 0, 0, 0) else none)))) else (if pc < 12 then (if pc < 10 then (if pc = 8 then some (.bipush 10, 2, 0, 0, 0, 0) else none) else (if pc < 11 then (if pc = 10 then some (.idiv, 1, 0, 0, 0, 0) else none) else (if pc = 11 then some (.iload_n 1, 1, 0, 0, 0, 0) else none))) else (if pc < 14 then (if pc = 12 then some (.bipush 10, 2, 0, 0, 0, 0) else none) else (if pc < 15 then (if pc = 14 then some (.idiv, 1, 0, 0, 0, 0) else none) else (if pc = 15 then some (.if_icmp .ne 5, 3, 20, 0, 0, 0) else none))))) else (if pc < 25 then (if pc < 21 then (if pc < 19 then (if pc = 18 then some (.iconst 2, 1, 0, 0, 0, 0) else none) else (if pc < 20 then (if pc = 19 then some (.ireturn, 1, 0, 0, 0, 0) else none) else (if pc = 20 then some (.iload_n 0, 1, 0, 0, 0, 0) else none))) else (if pc < 23 then (if pc = 21 then some (.bipush 10, 2, 0, 0, 0, 0) else none) else (if pc < 24 then (if pc = 23 then some (.irem, 1, 0, 0, 0, 0) else none) else (if pc = 24 then some (.iload_n 1, 1, 0, 0, 0, 0) else none)))) else (if pc < 31 then (if pc < 27 then (if pc = 25 then some (.bipush 10, 2, 0, 0, 0, 0) else none) else (if pc < 28 then (if pc = 27 then some (.irem, 1, 0, 0, 0, 0) else none) else (if pc = 28 then some (.if_icmp .ne 7, 3, 35, 0, 0, 0) else none))) else (if pc < 35 then (if pc < 32 then (if pc = 31 then some (.iconst 3, 1, 0, 0, 0, 0) else none) else (if pc = 32 then some (.goto 4, 3, 36, 0, 0, 0) else none)) else (if pc < 36 then (if pc = 35 then some (.iconst 0, 1, 0, 0, 0, 0) else none) else (if pc = 36 then some (.ireturn, 1, 0, 0, 0, 0) else none)))))
def f_X3_addCustomer (pc : Nat) : Option En := if pc < 15 then (if pc < 7 then (if pc < 1 then (if pc = 0 then some (.iload_n 1, 1, 0, 0, 0, 0) else none) else (if pc < 4 then (if pc = 1 then some (.invokestatic 127, 3, 92, 1, 308, 1) else none) else (if pc = 4 then some (.ifCond .eq 10, 3, 14, 0, 0, 0) else none))) else (if pc < 11 then (if pc < 8 then (if pc = 7 then some (.iload_n 2, 1, 0, 0, 0, 0) else none) else (if pc = 8 then some (.invokestatic 91, 3, 90, 1, 273, 1) else none)) else (if pc < 14 then (if pc = 11 then some (.ifCond .ne 5, 3, 16, 0, 0, 0) else none) else (if pc = 14 then some (.iconst (-1), 1, 0, 0, 0, 0) else none)))) else (if pc < 20 then (if pc < 16 then (if pc = 15 then some (.ireturn, 1, 0, 0, 0, 0) else none) else (if pc < 17 then (if pc = 16 then some (.aload_n 0, 1, 0, 0, 0, 0) else none) else (if pc = 17 then some (.getfield 39, 3, 0, 5, 148, 0) else none))) else (if pc < 22 then (if pc < 21 then (if pc = 20 then some (.iload_n 1, 1, 0, 0, 0, 0) else none) else (if pc = 21 then some (.iload_n 2, 1, 0, 0, 0, 0) else none)) else (if pc < 25 then (if pc = 22 then some (.invokevirtual 130, 3, 53, 2, 311, 0) else none) else (if pc = 25 then some (.ireturn, 1, 0, 0, 0, 0) else none))))
def f_X3_removeCustomers (pc : Nat) : Option En := if pc < 14 then (if pc < 8 then (if pc < 4 then (if pc < 1 then (if pc = 0 then some (.iload_n 1, 1, 0, 0, 0, 0) else none) else (if pc = 1 then some (.invokestatic 91, 3, 90, 1, 273, 1) else none)) else (if pc < 7 then (if pc = 4 then some (.ifCond .ne 5, 3, 9, 0, 0, 0) else none) else (if pc = 7 then some (.iconst (-1), 1, 0, 0, 0, 0) else none))) else (if pc < 10 then (if pc < 9 then (if pc = 8 then some (.ireturn, 1, 0, 0, 0, 0) else none) else (if pc = 9 then some (.aload_n 0, 1, 0, 0, 0, 0) else none)) else (if pc < 13 then (if pc = 10 then some (.getfield 39, 3, 0, 5, 148, 0) else none) else (if pc = 13 then some (.iload_n 1, 1, 0, 0, 0, 0) else none)))) else (if pc < 22 then (if pc < 18 then (if pc < 17 then (if pc = 14 then some (.invokevirtual 133, 3, 55, 1, 642, 0) else none) else (if pc = 17 then some (.istore_n 2, 1, 0, 0, 0, 0) else none)) else (if pc < 19 then (if pc = 18 then some (.iload_n 2, 1, 0, 0, 0, 0) else none) else (if pc = 19 then some (.ifCond .ne 8, 3, 27, 0, 0, 0) else none))) else (if pc < 27 then (if pc < 24 then (if pc = 22 then some (.bipush (-5), 2, 0, 0, 0, 0) else none) else (if pc = 24 then some (.goto 4, 3, 28, 0, 0, 0) else none)) else (if pc < 28 then (if pc = 27 then some (.iload_n 2, 1, 0, 0, 0, 0) else none) else (if pc = 28 then some (.ireturn, 1, 0, 0, 0, 0) else none))))
def f_X3_passTicks (pc : Nat) : Option En := if pc < 25 then (if pc < 11 then (if pc < 7 then (if pc < 1 then (if pc = 0 then some (.iload_n 1, 1, 0, 0, 0, 0) else none) else (if pc < 4 then (if pc = 1 then some (.invokestatic 136, 3, 93, 1, 323, 1) else none) else (if pc = 4 then some (.ifCond .ne 6, 3, 10, 0, 0, 0) else none))) else (if pc < 9 then (if pc = 7 then some (.bipush (-2), 2, 0, 0, 0, 0) else none) else (if pc < 10 then (if pc = 9 then some (.ireturn, 1, 0, 0, 0, 0) else none) else (if pc = 10 then some (.aload_n 0, 1, 0, 0, 0, 0) else none)))) else (if pc < 16 then (if pc < 14 then (if pc = 11 then some (.getfield 57, 3, 0, 0, 140, 0) else none) else (if pc < 15 then (if pc = 14 then some (.iload_n 1, 1, 0, 0, 0, 0) else none) else (if pc = 15 then some (.iadd, 1, 0, 0, 0, 0) else none))) else (if pc < 22 then (if pc < 19 then (if pc = 16 then some (.sipush 9999, 3, 0, 0, 0, 0) else none) else (if pc = 19 then some (.if_icmp .le 6, 3, 25, 0, 0, 0) else none)) else (if pc < 24 then (if pc = 22 then some (.bipush (-3), 2, 0, 0, 0, 0) else none) else (if pc = 24 then some (.ireturn, 1, 0, 0, 0, 0) else none))))) else (if pc < 35 then (if pc < 32 then (if pc < 26 then (if pc = 25 then some (.aload_n 0, 1, 0, 0, 0, 0) else none) else (if pc < 29 then (if pc = 26 then some (.getfield 39, 3, 0, 5, 148, 0) else none) else (if pc = 29 then some (.invokevirtual 139, 3, 64, 0, 326, 0) else none))) else (if pc < 33 then (if pc = 32 then some (.istore_n 2, 1, 0, 0, 0, 0) else none) else (if pc < 34 then (if pc = 33 then some (.aload_n 0, 1, 0, 0, 0, 0) else none) else (if pc = 34 then some (.iload_n 1, 1, 0, 0, 0, 0) else none)))) else (if pc < 42 then (if pc < 38 then (if pc = 35 then some (.invokevirtual 143, 3, 28, 1, 333, 0) else none) else (if pc < 39 then (if pc = 38 then some (.aload_n 0, 1, 0, 0, 0, 0) else none) else (if pc = 39 then some (.getfield 39, 3, 0, 5, 148, 0) else none))) else (if pc < 46 then (if pc < 45 then (if pc = 42 then some (.invokevirtual 139, 3, 64, 0, 326, 0) else none) else (if pc = 45 then some (.iload_n 2, 1, 0, 0, 0, 0) else none)) else (if pc < 47 then (if pc = 46 then some (.isub, 1, 0, 0, 0, 0) else none) else (if pc = 47 then some (.ireturn, 1, 0, 0, 0, 0) else none)))))
def f_X3_changeSetting (pc : Nat) : Option En := if pc < 18 then (if pc < 10 then (if pc < 2 then (if pc < 1 then (if pc = 0 then some (.iload_n 1, 1, 0, 0, 0, 0) else none) else (if pc = 1 then some (.iload_n 2, 1, 0, 0, 0, 0) else none)) else (if pc < 5 then (if pc = 2 then some (.invokestatic 147, 3, 94, 2, 654, 1) else none) else (if pc < 8 then (if pc = 5 then some (.ifCond .ne 6, 3, 11, 0, 0, 0) else none) else (if pc = 8 then some (.bipush (-2), 2, 0, 0, 0, 0) else none)))) else (if pc < 15 then (if pc < 11 then (if pc = 10 then some (.ireturn, 1, 0, 0, 0, 0) else none) else (if pc < 12 then (if pc = 11 then some (.aload_n 0, 1, 0, 0, 0, 0) else none) else (if pc = 12 then some (.getfield 15, 3, 0, 2, 142, 0) else none))) else (if pc < 16 then (if pc = 15 then some (.iload_n 1, 1, 0, 0, 0, 0) else none) else (if pc < 17 then (if pc = 16 then some (.iaload, 1, 0, 0, 0, 0) else none) else (if pc = 17 then some (.istore_n 3, 1, 0, 0, 0, 0) else none))))) else (if pc < 27 then (if pc < 23 then (if pc < 19 then (if pc = 18 then some (.iload_n 3, 1, 0, 0, 0, 0) else none) else (if pc < 20 then (if pc = 19 then some (.iload_n 2, 1, 0, 0, 0, 0) else none) else (if pc = 20 then some (.if_icmp .ne 6, 3, 26, 0, 0, 0) else none))) else (if pc < 25 then (if pc = 23 then some (.bipush (-5), 2, 0, 0, 0, 0) else none) else (if pc < 26 then (if pc = 25 then some (.ireturn, 1, 0, 0, 0, 0) else none) else (if pc = 26 then some (.aload_n 0, 1, 0, 0, 0, 0) else none)))) else (if pc < 32 then (if pc < 30 then (if pc = 27 then some (.getfield 15, 3, 0, 2, 142, 0) else none) else (if pc < 31 then (if pc = 30 then some (.iload_n 1, 1, 0, 0, 0, 0) else none) else (if pc = 31 then some (.iload_n 2, 1, 0, 0, 0, 0) else none))) else (if pc < 33 then (if pc = 32 then some (.iastore, 1, 0, 0, 0, 0) else none) else (if pc < 34 then (if pc = 33 then some (.iload_n 3, 1, 0, 0, 0, 0) else none) else (if pc = 34 then some (.ireturn, 1, 0, 0, 0, 0) else none)))))
def f_X3_runTicks (pc : Nat) : Option En := if pc < 23 then (if pc < 11 then (if pc < 3 then (if pc < 1 then (if pc = 0 then some (.iconst 0, 1, 0, 0, 0, 0) else none) else (if pc < 2 then (if pc = 1 then some (.istore_n 2, 1, 0, 0, 0, 0) else none) else (if pc = 2 then some (.iload_n 2, 1, 0, 0, 0, 0) else none))) else (if pc < 7 then (if pc < 4 then (if pc = 3 then some (.iload_n 1, 1, 0, 0, 0, 0) else none) else (if pc = 4 then some (.if_icmp .ge 52, 3, 56, 0, 0, 0) else none)) else (if pc < 8 then (if pc = 7 then some (.aload_n 0, 1, 0, 0, 0, 0) else none) else (if pc = 8 then some (.invokevirtual 150, 3, 29, 0, 337, 0) else none)))) else (if pc < 15 then (if pc < 13 then (if pc < 12 then (if pc = 11 then some (.iconst 0, 1, 0, 0, 0, 0) else none) else (if pc = 12 then some (.istore_n 3, 1, 0, 0, 0, 0) else none)) else (if pc < 14 then (if pc = 13 then some (.iload_n 3, 1, 0, 0, 0, 0) else none) else (if pc = 14 then some (.iconst 3, 1, 0, 0, 0, 0) else none))) else (if pc < 19 then (if pc < 18 then (if pc = 15 then some (.if_icmp .ge 14, 3, 29, 0, 0, 0) else none) else (if pc = 18 then some (.aload_n 0, 1, 0, 0, 0, 0) else none)) else (if pc < 20 then (if pc = 19 then some (.iload_n 3, 1, 0, 0, 0, 0) else none) else (if pc = 20 then some (.invokevirtual 153, 3, 34, 1, 429, 0) else none))))) else (if pc < 39 then (if pc < 33 then (if pc < 29 then (if pc < 26 then (if pc = 23 then some (.iinc 3 1, 3, 0, 0, 0, 0) else none) else (if pc = 26 then some (.goto (-13), 3, 13, 0, 0, 0) else none)) else (if pc < 30 then (if pc = 29 then some (.aload_n 0, 1, 0, 0, 0, 0) else none) else (if pc = 30 then some (.invokevirtual 156, 3, 37, 0, 453, 0) else none))) else (if pc < 35 then (if pc < 34 then (if pc = 33 then some (.aload_n 0, 1, 0, 0, 0, 0) else none) else (if pc = 34 then some (.dup, 1, 0, 0, 0, 0) else none)) else (if pc < 38 then (if pc = 35 then some (.getfield 57, 3, 0, 0, 140, 0) else none) else (if pc = 38 then some (.iconst 1, 1, 0, 0, 0, 0) else none)))) else (if pc < 47 then (if pc < 43 then (if pc < 40 then (if pc = 39 then some (.iadd, 1, 0, 0, 0, 0) else none) else (if pc = 40 then some (.putfield 57, 3, 0, 0, 140, 0) else none)) else (if pc < 44 then (if pc = 43 then some (.aload_n 0, 1, 0, 0, 0, 0) else none) else (if pc = 44 then some (.getfield 39, 3, 0, 5, 148, 0) else none))) else (if pc < 53 then (if pc < 50 then (if pc = 47 then some (.invokevirtual 159, 3, 60, 0, 465, 0) else none) else (if pc = 50 then some (.iinc 2 1, 3, 0, 0, 0, 0) else none)) else (if pc < 56 then (if pc = 53 then some (.goto (-51), 3, 2, 0, 0, 0) else none) else (if pc = 56 then some (.return_, 1, 0, 0, 0, 0) else none)))))
def f_X3_bringMail (pc : Nat) : Option En := if pc < 56 then (if pc < 24 then (if pc < 11 then (if pc < 7 then (if pc < 1 then (if pc = 0 then some (.aload_n 0, 1, 0, 0, 0, 0) else none) else (if pc < 4 then (if pc = 1 then some (.getfield 46, 3, 0, 6, 150, 0) else none) else (if pc = 4 then some (.getfield 162, 3, 18, 0, 112, 0) else none))) else (if pc < 9 then (if pc < 8 then (if pc = 7 then some (.istore_n 1, 1, 0, 0, 0, 0) else none) else (if pc = 8 then some (.iconst 0, 1, 0, 0, 0, 0) else none)) else (if pc < 10 then (if pc = 9 then some (.istore_n 2, 1, 0, 0, 0, 0) else none) else (if pc = 10 then some (.iload_n 2, 1, 0, 0, 0, 0) else none)))) else (if pc < 16 then (if pc < 12 then (if pc = 11 then some (.iload_n 1, 1, 0, 0, 0, 0) else none) else (if pc < 15 then (if pc = 12 then some (.if_icmp .ge 123, 3, 135, 0, 0, 0) else none) else (if pc = 15 then some (.aload_n 0, 1, 0, 0, 0, 0) else none))) else (if pc < 20 then (if pc < 19 then (if pc = 16 then some (.getfield 46, 3, 0, 6, 150, 0) else none) else (if pc = 19 then some (.iload_n 2, 1, 0, 0, 0, 0) else none)) else (if pc < 21 then (if pc = 20 then some (.aload_n 0, 1, 0, 0, 0, 0) else none) else (if pc = 21 then some (.getfield 57, 3, 0, 0, 140, 0) else none))))) else (if pc < 41 then (if pc < 33 then (if pc < 27 then (if pc = 24 then some (.invokevirtual 165, 3, 15, 2, 341, 0) else none) else (if pc < 30 then (if pc = 27 then some (.ifCond .ne 6, 3, 33, 0, 0, 0) else none) else (if pc = 30 then some (.goto 99, 3, 129, 0, 0, 0) else none))) else (if pc < 37 then (if pc < 34 then (if pc = 33 then some (.aload_n 0, 1, 0, 0, 0, 0) else none) else (if pc = 34 then some (.getfield 46, 3, 0, 6, 150, 0) else none)) else (if pc < 38 then (if pc = 37 then some (.iload_n 2, 1, 0, 0, 0, 0) else none) else (if pc = 38 then some (.invokevirtual 168, 3, 17, 1, 345, 0) else none)))) else (if pc < 47 then (if pc < 43 then (if pc < 42 then (if pc = 41 then some (.istore_n 3, 1, 0, 0, 0, 0) else none) else (if pc = 42 then some (.aload_n 0, 1, 0, 0, 0, 0) else none)) else (if pc < 46 then (if pc = 43 then some (.getfield 46, 3, 0, 6, 150, 0) else none) else (if pc = 46 then some (.iload_n 2, 1, 0, 0, 0, 0) else none))) else (if pc < 52 then (if pc < 50 then (if pc = 47 then some (.invokevirtual 171, 3, 18, 1, 349, 0) else none) else (if pc = 50 then some (.istore 4, 2, 0, 0, 0, 0) else none)) else (if pc < 53 then (if pc = 52 then some (.aload_n 0, 1, 0, 0, 0, 0) else none) else (if pc = 53 then some (.getfield 46, 3, 0, 6, 150, 0) else none)))))) else (if pc < 114 then (if pc < 99 then (if pc < 92 then (if pc < 57 then (if pc = 56 then some (.iload_n 2, 1, 0, 0, 0, 0) else none) else (if pc < 60 then (if pc = 57 then some (.invokevirtual 174, 3, 16, 1, 353, 0) else none) else (if pc = 60 then some (.tableswitch 62 0 3 #[32, 42, 62, 52], 32, 0, 0, 0, 0) else none))) else (if pc < 94 then (if pc < 93 then (if pc = 92 then some (.aload_n 0, 1, 0, 0, 0, 0) else none) else (if pc = 93 then some (.iload_n 3, 1, 0, 0, 0, 0) else none)) else (if pc < 96 then (if pc = 94 then some (.iload 4, 2, 0, 0, 0, 0) else none) else (if pc = 96 then some (.invokevirtual 177, 3, 30, 2, 357, 0) else none)))) else (if pc < 106 then (if pc < 103 then (if pc < 102 then (if pc = 99 then some (.goto 30, 3, 129, 0, 0, 0) else none) else (if pc = 102 then some (.aload_n 0, 1, 0, 0, 0, 0) else none)) else (if pc < 104 then (if pc = 103 then some (.iload_n 3, 1, 0, 0, 0, 0) else none) else (if pc = 104 then some (.iload 4, 2, 0, 0, 0, 0) else none))) else (if pc < 112 then (if pc < 109 then (if pc = 106 then some (.invokevirtual 180, 3, 31, 2, 365, 0) else none) else (if pc = 109 then some (.goto 20, 3, 129, 0, 0, 0) else none)) else (if pc < 113 then (if pc = 112 then some (.aload_n 0, 1, 0, 0, 0, 0) else none) else (if pc = 113 then some (.iload_n 3, 1, 0, 0, 0, 0) else none))))) else (if pc < 129 then (if pc < 122 then (if pc < 116 then (if pc = 114 then some (.iload 4, 2, 0, 0, 0, 0) else none) else (if pc < 119 then (if pc = 116 then some (.invokevirtual 183, 3, 32, 2, 373, 0) else none) else (if pc = 119 then some (.goto 10, 3, 129, 0, 0, 0) else none))) else (if pc < 124 then (if pc < 123 then (if pc = 122 then some (.aload_n 0, 1, 0, 0, 0, 0) else none) else (if pc = 123 then some (.iload_n 3, 1, 0, 0, 0, 0) else none)) else (if pc < 126 then (if pc = 124 then some (.iload 4, 2, 0, 0, 0, 0) else none) else (if pc = 126 then some (.invokevirtual 186, 3, 33, 2, 417, 0) else none)))) else (if pc < 139 then (if pc < 135 then (if pc < 132 then (if pc = 129 then some (.iinc 2 1, 3, 0, 0, 0, 0) else none) else (if pc = 132 then some (.goto (-122), 3, 10, 0, 0, 0) else none)) else (if pc < 136 then (if pc = 135 then some (.aload_n 0, 1, 0, 0, 0, 0) else none) else (if pc = 136 then some (.getfield 46, 3, 0, 6, 150, 0) else none))) else (if pc < 143 then (if pc < 140 then (if pc = 139 then some (.aload_n 0, 1, 0, 0, 0, 0) else none) else (if pc = 140 then some (.getfield 57, 3, 0, 0, 140, 0) else none)) else (if pc < 146 then (if pc = 143 then some (.invokevirtual 189, 3, 19, 1, 425, 0) else none) else (if pc = 146 then some (.return_, 1, 0, 0, 0, 0) else none))))))
def f_X3_takeMark (pc : Nat) : Option En := if pc < 28 then (if pc < 12 then (if pc < 5 then (if pc < 1 then (if pc = 0 then some (.aload_n 0, 1, 0, 0, 0, 0) else none) else (if pc < 4 then (if pc = 1 then some (.getfield 25, 3, 0, 3, 144, 0) else none) else (if pc = 4 then some (.iload_n 2, 1, 0, 0, 0, 0) else none))) else (if pc < 8 then (if pc < 7 then (if pc = 5 then some (.bipush 32, 2, 0, 0, 0, 0) else none) else (if pc = 7 then some (.iload_n 1, 1, 0, 0, 0, 0) else none)) else (if pc < 9 then (if pc = 8 then some (.ishl, 1, 0, 0, 0, 0) else none) else (if pc = 9 then some (.invokevirtual 102, 3, 45, 2, 284, 0) else none)))) else (if pc < 20 then (if pc < 16 then (if pc < 13 then (if pc = 12 then some (.aload_n 0, 1, 0, 0, 0, 0) else none) else (if pc = 13 then some (.getfield 25, 3, 0, 3, 144, 0) else none)) else (if pc < 17 then (if pc = 16 then some (.iload_n 2, 1, 0, 0, 0, 0) else none) else (if pc = 17 then some (.sipush 256, 3, 0, 0, 0, 0) else none))) else (if pc < 22 then (if pc < 21 then (if pc = 20 then some (.iload_n 1, 1, 0, 0, 0, 0) else none) else (if pc = 21 then some (.ishl, 1, 0, 0, 0, 0) else none)) else (if pc < 25 then (if pc = 22 then some (.invokevirtual 98, 3, 44, 2, 280, 0) else none) else (if pc = 25 then some (.ifCond .eq 32, 3, 57, 0, 0, 0) else none))))) else (if pc < 44 then (if pc < 34 then (if pc < 32 then (if pc < 29 then (if pc = 28 then some (.aload_n 0, 1, 0, 0, 0, 0) else none) else (if pc = 29 then some (.getfield 25, 3, 0, 3, 144, 0) else none)) else (if pc < 33 then (if pc = 32 then some (.iload_n 2, 1, 0, 0, 0, 0) else none) else (if pc = 33 then some (.iconst 4, 1, 0, 0, 0, 0) else none))) else (if pc < 40 then (if pc < 37 then (if pc = 34 then some (.invokevirtual 98, 3, 44, 2, 280, 0) else none) else (if pc = 37 then some (.ifCond .ne 20, 3, 57, 0, 0, 0) else none)) else (if pc < 41 then (if pc = 40 then some (.aload_n 0, 1, 0, 0, 0, 0) else none) else (if pc = 41 then some (.getfield 25, 3, 0, 3, 144, 0) else none)))) else (if pc < 50 then (if pc < 46 then (if pc < 45 then (if pc = 44 then some (.iload_n 2, 1, 0, 0, 0, 0) else none) else (if pc = 45 then some (.iconst 4, 1, 0, 0, 0, 0) else none)) else (if pc < 49 then (if pc = 46 then some (.invokevirtual 102, 3, 45, 2, 284, 0) else none) else (if pc = 49 then some (.aload_n 0, 1, 0, 0, 0, 0) else none))) else (if pc < 54 then (if pc < 53 then (if pc = 50 then some (.getfield 53, 3, 0, 7, 151, 0) else none) else (if pc = 53 then some (.iload_n 2, 1, 0, 0, 0, 0) else none)) else (if pc < 57 then (if pc = 54 then some (.invokevirtual 192, 3, 2, 1, 361, 0) else none) else (if pc = 57 then some (.return_, 1, 0, 0, 0, 0) else none)))))
def f_X3_takeQuestion (pc : Nat) : Option En := if pc < 42 then (if pc < 20 then (if pc < 8 then (if pc < 3 then (if pc < 1 then (if pc = 0 then some (.iload_n 2, 1, 0, 0, 0, 0) else none) else (if pc < 2 then (if pc = 1 then some (.iconst 3, 1, 0, 0, 0, 0) else none) else (if pc = 2 then some (.irem, 1, 0, 0, 0, 0) else none))) else (if pc < 4 then (if pc = 3 then some (.istore_n 3, 1, 0, 0, 0, 0) else none) else (if pc < 5 then (if pc = 4 then some (.aload_n 0, 1, 0, 0, 0, 0) else none) else (if pc = 5 then some (.getfield 25, 3, 0, 3, 144, 0) else none)))) else (if pc < 13 then (if pc < 9 then (if pc = 8 then some (.iload_n 2, 1, 0, 0, 0, 0) else none) else (if pc < 10 then (if pc = 9 then some (.iconst 2, 1, 0, 0, 0, 0) else none) else (if pc = 10 then some (.invokevirtual 98, 3, 44, 2, 280, 0) else none))) else (if pc < 16 then (if pc = 13 then some (.ifCond .ne 18, 3, 31, 0, 0, 0) else none) else (if pc < 17 then (if pc = 16 then some (.aload_n 0, 1, 0, 0, 0, 0) else none) else (if pc = 17 then some (.getfield 25, 3, 0, 3, 144, 0) else none))))) else (if pc < 31 then (if pc < 24 then (if pc < 21 then (if pc = 20 then some (.iload_n 2, 1, 0, 0, 0, 0) else none) else (if pc < 23 then (if pc = 21 then some (.bipush 32, 2, 0, 0, 0, 0) else none) else (if pc = 23 then some (.iload_n 3, 1, 0, 0, 0, 0) else none))) else (if pc < 25 then (if pc = 24 then some (.ishl, 1, 0, 0, 0, 0) else none) else (if pc < 28 then (if pc = 25 then some (.invokevirtual 98, 3, 44, 2, 280, 0) else none) else (if pc = 28 then some (.ifCond .eq 25, 3, 53, 0, 0, 0) else none)))) else (if pc < 36 then (if pc < 32 then (if pc = 31 then some (.aload_n 0, 1, 0, 0, 0, 0) else none) else (if pc < 35 then (if pc = 32 then some (.getfield 46, 3, 0, 6, 150, 0) else none) else (if pc = 35 then some (.iconst 2, 1, 0, 0, 0, 0) else none))) else (if pc < 38 then (if pc < 37 then (if pc = 36 then some (.iload_n 1, 1, 0, 0, 0, 0) else none) else (if pc = 37 then some (.iload_n 2, 1, 0, 0, 0, 0) else none)) else (if pc < 39 then (if pc = 38 then some (.aload_n 0, 1, 0, 0, 0, 0) else none) else (if pc = 39 then some (.getfield 57, 3, 0, 0, 140, 0) else none)))))) else (if pc < 63 then (if pc < 52 then (if pc < 47 then (if pc < 43 then (if pc = 42 then some (.aload_n 0, 1, 0, 0, 0, 0) else none) else (if pc < 46 then (if pc = 43 then some (.getfield 15, 3, 0, 2, 142, 0) else none) else (if pc = 46 then some (.iconst 1, 1, 0, 0, 0, 0) else none))) else (if pc < 48 then (if pc = 47 then some (.iaload, 1, 0, 0, 0, 0) else none) else (if pc < 49 then (if pc = 48 then some (.iadd, 1, 0, 0, 0, 0) else none) else (if pc = 49 then some (.invokevirtual 195, 3, 14, 4, 369, 0) else none)))) else (if pc < 57 then (if pc < 53 then (if pc = 52 then some (.return_, 1, 0, 0, 0, 0) else none) else (if pc < 54 then (if pc = 53 then some (.aload_n 0, 1, 0, 0, 0, 0) else none) else (if pc = 54 then some (.getfield 25, 3, 0, 3, 144, 0) else none))) else (if pc < 59 then (if pc < 58 then (if pc = 57 then some (.iload_n 2, 1, 0, 0, 0, 0) else none) else (if pc = 58 then some (.iconst 2, 1, 0, 0, 0, 0) else none)) else (if pc < 62 then (if pc = 59 then some (.invokevirtual 102, 3, 45, 2, 284, 0) else none) else (if pc = 62 then some (.aload_n 0, 1, 0, 0, 0, 0) else none))))) else (if pc < 73 then (if pc < 68 then (if pc < 66 then (if pc = 63 then some (.getfield 46, 3, 0, 6, 150, 0) else none) else (if pc < 67 then (if pc = 66 then some (.iconst 3, 1, 0, 0, 0, 0) else none) else (if pc = 67 then some (.iload_n 1, 1, 0, 0, 0, 0) else none))) else (if pc < 69 then (if pc = 68 then some (.iload_n 2, 1, 0, 0, 0, 0) else none) else (if pc < 70 then (if pc = 69 then some (.aload_n 0, 1, 0, 0, 0, 0) else none) else (if pc = 70 then some (.getfield 57, 3, 0, 0, 140, 0) else none)))) else (if pc < 78 then (if pc < 74 then (if pc = 73 then some (.aload_n 0, 1, 0, 0, 0, 0) else none) else (if pc < 77 then (if pc = 74 then some (.getfield 15, 3, 0, 2, 142, 0) else none) else (if pc = 77 then some (.iconst 1, 1, 0, 0, 0, 0) else none))) else (if pc < 80 then (if pc < 79 then (if pc = 78 then some (.iaload, 1, 0, 0, 0, 0) else none) else (if pc = 79 then some (.iadd, 1, 0, 0, 0, 0) else none)) else (if pc < 83 then (if pc = 80 then some (.invokevirtual 195, 3, 14, 4, 369, 0) else none) else (if pc = 83 then some (.return_, 1, 0, 0, 0, 0) else none))))))
def f_X3_takeYes (pc : Nat) : Option En := if pc < 23 then (if pc < 10 then (if pc < 7 then (if pc < 1 then (if pc = 0 then some (.aload_n 0, 1, 0, 0, 0, 0) else none) else (if pc < 4 then (if pc = 1 then some (.getfield 39, 3, 0, 5, 148, 0) else none) else (if pc = 4 then some (.getfield 199, 3, 9, 2, 82, 0) else none))) else (if pc < 8 then (if pc = 7 then some (.iload_n 1, 1, 0, 0, 0, 0) else none) else (if pc < 9 then (if pc = 8 then some (.iaload, 1, 0, 0, 0, 0) else none) else (if pc = 9 then some (.iload_n 2, 1, 0, 0, 0, 0) else none)))) else (if pc < 17 then (if pc < 13 then (if pc = 10 then some (.if_icmp .ne 23, 3, 33, 0, 0, 0) else none) else (if pc < 14 then (if pc = 13 then some (.aload_n 0, 1, 0, 0, 0, 0) else none) else (if pc = 14 then some (.getfield 39, 3, 0, 5, 148, 0) else none))) else (if pc < 20 then (if pc = 17 then some (.getfield 199, 3, 9, 2, 82, 0) else none) else (if pc < 21 then (if pc = 20 then some (.iload_n 1, 1, 0, 0, 0, 0) else none) else (if pc = 21 then some (.bipush (-5), 2, 0, 0, 0, 0) else none))))) else (if pc < 33 then (if pc < 26 then (if pc < 24 then (if pc = 23 then some (.iastore, 1, 0, 0, 0, 0) else none) else (if pc < 25 then (if pc = 24 then some (.aload_n 0, 1, 0, 0, 0, 0) else none) else (if pc = 25 then some (.iload_n 1, 1, 0, 0, 0, 0) else none))) else (if pc < 27 then (if pc = 26 then some (.iload_n 2, 1, 0, 0, 0, 0) else none) else (if pc < 30 then (if pc = 27 then some (.invokevirtual 202, 3, 36, 2, 377, 0) else none) else (if pc = 30 then some (.goto 12, 3, 42, 0, 0, 0) else none)))) else (if pc < 38 then (if pc < 34 then (if pc = 33 then some (.aload_n 0, 1, 0, 0, 0, 0) else none) else (if pc < 37 then (if pc = 34 then some (.getfield 25, 3, 0, 3, 144, 0) else none) else (if pc = 37 then some (.iload_n 2, 1, 0, 0, 0, 0) else none))) else (if pc < 39 then (if pc = 38 then some (.iconst 2, 1, 0, 0, 0, 0) else none) else (if pc < 42 then (if pc = 39 then some (.invokevirtual 205, 3, 46, 2, 413, 0) else none) else (if pc = 42 then some (.return_, 1, 0, 0, 0, 0) else none)))))
def f_X3_takeNo (pc : Nat) : Option En := if pc < 17 then (if pc < 8 then (if pc < 4 then (if pc < 1 then (if pc = 0 then some (.aload_n 0, 1, 0, 0, 0, 0) else none) else (if pc = 1 then some (.getfield 39, 3, 0, 5, 148, 0) else none)) else (if pc < 7 then (if pc = 4 then some (.getfield 199, 3, 9, 2, 82, 0) else none) else (if pc = 7 then some (.iload_n 1, 1, 0, 0, 0, 0) else none))) else (if pc < 10 then (if pc < 9 then (if pc = 8 then some (.iaload, 1, 0, 0, 0, 0) else none) else (if pc = 9 then some (.iload_n 2, 1, 0, 0, 0, 0) else none)) else (if pc < 13 then (if pc = 10 then some (.if_icmp .ne 23, 3, 33, 0, 0, 0) else none) else (if pc < 14 then (if pc = 13 then some (.aload_n 0, 1, 0, 0, 0, 0) else none) else (if pc = 14 then some (.getfield 39, 3, 0, 5, 148, 0) else none))))) else (if pc < 25 then (if pc < 21 then (if pc < 20 then (if pc = 17 then some (.getfield 199, 3, 9, 2, 82, 0) else none) else (if pc = 20 then some (.iload_n 1, 1, 0, 0, 0, 0) else none)) else (if pc < 23 then (if pc = 21 then some (.bipush (-5), 2, 0, 0, 0, 0) else none) else (if pc < 24 then (if pc = 23 then some (.iastore, 1, 0, 0, 0, 0) else none) else (if pc = 24 then some (.aload_n 0, 1, 0, 0, 0, 0) else none)))) else (if pc < 29 then (if pc < 28 then (if pc = 25 then some (.getfield 39, 3, 0, 5, 148, 0) else none) else (if pc = 28 then some (.iload_n 1, 1, 0, 0, 0, 0) else none)) else (if pc < 30 then (if pc = 29 then some (.iconst 5, 1, 0, 0, 0, 0) else none) else (if pc < 33 then (if pc = 30 then some (.invokevirtual 208, 3, 61, 2, 421, 0) else none) else (if pc = 33 then some (.return_, 1, 0, 0, 0, 0) else none)))))
def f_X3_serve (pc : Nat) : Option En := if pc < 74 then (if pc < 38 then (if pc < 18 then (if pc < 9 then (if pc < 4 then (if pc < 1 then (if pc = 0 then some (.aload_n 0, 1, 0, 0, 0, 0) else none) else (if pc = 1 then some (.getfield 39, 3, 0, 5, 148, 0) else none)) else (if pc < 5 then (if pc = 4 then some (.iload_n 1, 1, 0, 0, 0, 0) else none) else (if pc < 6 then (if pc = 5 then some (.aload_n 0, 1, 0, 0, 0, 0) else none) else (if pc = 6 then some (.getfield 15, 3, 0, 2, 142, 0) else none)))) else (if pc < 11 then (if pc < 10 then (if pc = 9 then some (.iconst 2, 1, 0, 0, 0, 0) else none) else (if pc = 10 then some (.iaload, 1, 0, 0, 0, 0) else none)) else (if pc < 14 then (if pc = 11 then some (.invokevirtual 211, 3, 58, 2, 433, 0) else none) else (if pc < 17 then (if pc = 14 then some (.ifCond .eq 24, 3, 38, 0, 0, 0) else none) else (if pc = 17 then some (.aload_n 0, 1, 0, 0, 0, 0) else none))))) else (if pc < 28 then (if pc < 24 then (if pc < 21 then (if pc = 18 then some (.getfield 39, 3, 0, 5, 148, 0) else none) else (if pc = 21 then some (.getfield 199, 3, 9, 2, 82, 0) else none)) else (if pc < 25 then (if pc = 24 then some (.iload_n 1, 1, 0, 0, 0, 0) else none) else (if pc < 27 then (if pc = 25 then some (.bipush (-5), 2, 0, 0, 0, 0) else none) else (if pc = 27 then some (.iastore, 1, 0, 0, 0, 0) else none)))) else (if pc < 32 then (if pc < 29 then (if pc = 28 then some (.aload_n 0, 1, 0, 0, 0, 0) else none) else (if pc = 29 then some (.getfield 39, 3, 0, 5, 148, 0) else none)) else (if pc < 33 then (if pc = 32 then some (.iload_n 1, 1, 0, 0, 0, 0) else none) else (if pc < 35 then (if pc = 33 then some (.bipush 6, 2, 0, 0, 0, 0) else none) else (if pc = 35 then some (.invokevirtual 208, 3, 61, 2, 421, 0) else none)))))) else (if pc < 58 then (if pc < 49 then (if pc < 42 then (if pc < 39 then (if pc = 38 then some (.aload_n 0, 1, 0, 0, 0, 0) else none) else (if pc = 39 then some (.getfield 39, 3, 0, 5, 148, 0) else none)) else (if pc < 43 then (if pc = 42 then some (.iload_n 1, 1, 0, 0, 0, 0) else none) else (if pc < 46 then (if pc = 43 then some (.invokevirtual 214, 3, 57, 1, 437, 0) else none) else (if pc = 46 then some (.ifCond .eq 4, 3, 50, 0, 0, 0) else none)))) else (if pc < 51 then (if pc < 50 then (if pc = 49 then some (.return_, 1, 0, 0, 0, 0) else none) else (if pc = 50 then some (.aload_n 0, 1, 0, 0, 0, 0) else none)) else (if pc < 54 then (if pc = 51 then some (.getfield 39, 3, 0, 5, 148, 0) else none) else (if pc < 55 then (if pc = 54 then some (.iload_n 1, 1, 0, 0, 0, 0) else none) else (if pc = 55 then some (.invokevirtual 217, 3, 54, 1, 441, 0) else none))))) else (if pc < 66 then (if pc < 60 then (if pc < 59 then (if pc = 58 then some (.istore_n 2, 1, 0, 0, 0, 0) else none) else (if pc = 59 then some (.iload_n 2, 1, 0, 0, 0, 0) else none)) else (if pc < 62 then (if pc = 60 then some (.bipush (-5), 2, 0, 0, 0, 0) else none) else (if pc < 65 then (if pc = 62 then some (.if_icmp .ne 4, 3, 66, 0, 0, 0) else none) else (if pc = 65 then some (.return_, 1, 0, 0, 0, 0) else none)))) else (if pc < 69 then (if pc < 67 then (if pc = 66 then some (.aload_n 0, 1, 0, 0, 0, 0) else none) else (if pc < 68 then (if pc = 67 then some (.iload_n 1, 1, 0, 0, 0, 0) else none) else (if pc = 68 then some (.iload_n 2, 1, 0, 0, 0, 0) else none))) else (if pc < 72 then (if pc = 69 then some (.invokevirtual 220, 3, 35, 2, 445, 0) else none) else (if pc < 73 then (if pc = 72 then some (.istore_n 3, 1, 0, 0, 0, 0) else none) else (if pc = 73 then some (.iload_n 3, 1, 0, 0, 0, 0) else none))))))) else (if pc < 111 then (if pc < 94 then (if pc < 83 then (if pc < 78 then (if pc < 77 then (if pc = 74 then some (.ifCond .eq 15, 3, 89, 0, 0, 0) else none) else (if pc = 77 then some (.aload_n 0, 1, 0, 0, 0, 0) else none)) else (if pc < 81 then (if pc = 78 then some (.getfield 39, 3, 0, 5, 148, 0) else none) else (if pc < 82 then (if pc = 81 then some (.iload_n 1, 1, 0, 0, 0, 0) else none) else (if pc = 82 then some (.iload_n 3, 1, 0, 0, 0, 0) else none)))) else (if pc < 89 then (if pc < 86 then (if pc = 83 then some (.invokevirtual 208, 3, 61, 2, 421, 0) else none) else (if pc = 86 then some (.goto 59, 3, 145, 0, 0, 0) else none)) else (if pc < 90 then (if pc = 89 then some (.aload_n 0, 1, 0, 0, 0, 0) else none) else (if pc < 93 then (if pc = 90 then some (.getfield 15, 3, 0, 2, 142, 0) else none) else (if pc = 93 then some (.iconst 0, 1, 0, 0, 0, 0) else none))))) else (if pc < 101 then (if pc < 96 then (if pc < 95 then (if pc = 94 then some (.iaload, 1, 0, 0, 0, 0) else none) else (if pc = 95 then some (.iconst 1, 1, 0, 0, 0, 0) else none)) else (if pc < 99 then (if pc = 96 then some (.if_icmp .ne 43, 3, 139, 0, 0, 0) else none) else (if pc < 100 then (if pc = 99 then some (.iload_n 2, 1, 0, 0, 0, 0) else none) else (if pc = 100 then some (.iconst 3, 1, 0, 0, 0, 0) else none)))) else (if pc < 106 then (if pc < 102 then (if pc = 101 then some (.irem, 1, 0, 0, 0, 0) else none) else (if pc < 103 then (if pc = 102 then some (.iload_n 1, 1, 0, 0, 0, 0) else none) else (if pc = 103 then some (.if_icmp .eq 36, 3, 139, 0, 0, 0) else none))) else (if pc < 107 then (if pc = 106 then some (.aload_n 0, 1, 0, 0, 0, 0) else none) else (if pc < 110 then (if pc = 107 then some (.getfield 46, 3, 0, 6, 150, 0) else none) else (if pc = 110 then some (.iconst 1, 1, 0, 0, 0, 0) else none)))))) else (if pc < 127 then (if pc < 118 then (if pc < 113 then (if pc < 112 then (if pc = 111 then some (.iload_n 1, 1, 0, 0, 0, 0) else none) else (if pc = 112 then some (.iload_n 2, 1, 0, 0, 0, 0) else none)) else (if pc < 114 then (if pc = 113 then some (.aload_n 0, 1, 0, 0, 0, 0) else none) else (if pc < 117 then (if pc = 114 then some (.getfield 57, 3, 0, 0, 140, 0) else none) else (if pc = 117 then some (.aload_n 0, 1, 0, 0, 0, 0) else none)))) else (if pc < 122 then (if pc < 121 then (if pc = 118 then some (.getfield 15, 3, 0, 2, 142, 0) else none) else (if pc = 121 then some (.iconst 1, 1, 0, 0, 0, 0) else none)) else (if pc < 123 then (if pc = 122 then some (.iaload, 1, 0, 0, 0, 0) else none) else (if pc < 124 then (if pc = 123 then some (.iadd, 1, 0, 0, 0, 0) else none) else (if pc = 124 then some (.invokevirtual 195, 3, 14, 4, 369, 0) else none))))) else (if pc < 136 then (if pc < 131 then (if pc < 128 then (if pc = 127 then some (.aload_n 0, 1, 0, 0, 0, 0) else none) else (if pc = 128 then some (.getfield 39, 3, 0, 5, 148, 0) else none)) else (if pc < 132 then (if pc = 131 then some (.iload_n 1, 1, 0, 0, 0, 0) else none) else (if pc < 133 then (if pc = 132 then some (.iload_n 2, 1, 0, 0, 0, 0) else none) else (if pc = 133 then some (.invokevirtual 223, 3, 59, 2, 449, 0) else none)))) else (if pc < 141 then (if pc < 139 then (if pc = 136 then some (.goto 9, 3, 145, 0, 0, 0) else none) else (if pc < 140 then (if pc = 139 then some (.aload_n 0, 1, 0, 0, 0, 0) else none) else (if pc = 140 then some (.iload_n 1, 1, 0, 0, 0, 0) else none))) else (if pc < 142 then (if pc = 141 then some (.iload_n 2, 1, 0, 0, 0, 0) else none) else (if pc < 145 then (if pc = 142 then some (.invokevirtual 202, 3, 36, 2, 377, 0) else none) else (if pc = 145 then some (.return_, 1, 0, 0, 0, 0) else none)))))))
def f_X3_reasonAgainst (pc : Nat) : Option En := if pc < 56 then (if pc < 29 then (if pc < 14 then (if pc < 6 then (if pc < 4 then (if pc < 1 then (if pc = 0 then some (.aload_n 0, 1, 0, 0, 0, 0) else none) else (if pc = 1 then some (.getfield 25, 3, 0, 3, 144, 0) else none)) else (if pc < 5 then (if pc = 4 then some (.iload_n 2, 1, 0, 0, 0, 0) else none) else (if pc = 5 then some (.iconst 1, 1, 0, 0, 0, 0) else none))) else (if pc < 12 then (if pc < 9 then (if pc = 6 then some (.invokevirtual 98, 3, 44, 2, 280, 0) else none) else (if pc = 9 then some (.ifCond .ne 5, 3, 14, 0, 0, 0) else none)) else (if pc < 13 then (if pc = 12 then some (.iconst 1, 1, 0, 0, 0, 0) else none) else (if pc = 13 then some (.ireturn, 1, 0, 0, 0, 0) else none)))) else (if pc < 21 then (if pc < 18 then (if pc < 15 then (if pc = 14 then some (.aload_n 0, 1, 0, 0, 0, 0) else none) else (if pc = 15 then some (.getfield 32, 3, 0, 4, 146, 0) else none)) else (if pc < 19 then (if pc = 18 then some (.iload_n 2, 1, 0, 0, 0, 0) else none) else (if pc = 19 then some (.bipush 100, 2, 0, 0, 0, 0) else none))) else (if pc < 25 then (if pc < 22 then (if pc = 21 then some (.idiv, 1, 0, 0, 0, 0) else none) else (if pc = 22 then some (.invokevirtual 95, 3, 5, 1, 276, 0) else none)) else (if pc < 28 then (if pc = 25 then some (.ifCond .ne 5, 3, 30, 0, 0, 0) else none) else (if pc = 28 then some (.iconst 2, 1, 0, 0, 0, 0) else none))))) else (if pc < 41 then (if pc < 35 then (if pc < 31 then (if pc < 30 then (if pc = 29 then some (.ireturn, 1, 0, 0, 0, 0) else none) else (if pc = 30 then some (.aload_n 0, 1, 0, 0, 0, 0) else none)) else (if pc < 32 then (if pc = 31 then some (.iload_n 2, 1, 0, 0, 0, 0) else none) else (if pc = 32 then some (.invokevirtual 226, 3, 38, 1, 381, 0) else none))) else (if pc < 39 then (if pc < 38 then (if pc = 35 then some (.ifCond .ne 5, 3, 40, 0, 0, 0) else none) else (if pc = 38 then some (.iconst 3, 1, 0, 0, 0, 0) else none)) else (if pc < 40 then (if pc = 39 then some (.ireturn, 1, 0, 0, 0, 0) else none) else (if pc = 40 then some (.aload_n 0, 1, 0, 0, 0, 0) else none)))) else (if pc < 48 then (if pc < 45 then (if pc < 44 then (if pc = 41 then some (.getfield 25, 3, 0, 3, 144, 0) else none) else (if pc = 44 then some (.iload_n 2, 1, 0, 0, 0, 0) else none)) else (if pc < 47 then (if pc = 45 then some (.bipush 32, 2, 0, 0, 0, 0) else none) else (if pc = 47 then some (.iload_n 1, 1, 0, 0, 0, 0) else none))) else (if pc < 52 then (if pc < 49 then (if pc = 48 then some (.ishl, 1, 0, 0, 0, 0) else none) else (if pc = 49 then some (.invokevirtual 98, 3, 44, 2, 280, 0) else none)) else (if pc < 55 then (if pc = 52 then some (.ifCond .eq 5, 3, 57, 0, 0, 0) else none) else (if pc = 55 then some (.iconst 4, 1, 0, 0, 0, 0) else none)))))) else (if pc < 104 then (if pc < 90 then (if pc < 62 then (if pc < 58 then (if pc < 57 then (if pc = 56 then some (.ireturn, 1, 0, 0, 0, 0) else none) else (if pc = 57 then some (.aload_n 0, 1, 0, 0, 0, 0) else none)) else (if pc < 61 then (if pc = 58 then some (.getfield 15, 3, 0, 2, 142, 0) else none) else (if pc = 61 then some (.iconst 0, 1, 0, 0, 0, 0) else none))) else (if pc < 88 then (if pc < 63 then (if pc = 62 then some (.iaload, 1, 0, 0, 0, 0) else none) else (if pc = 63 then some (.lookupswitch 69 #[(1, 25), (2, 50)], 25, 0, 0, 0, 0) else none)) else (if pc < 89 then (if pc = 88 then some (.iload_n 2, 1, 0, 0, 0, 0) else none) else (if pc = 89 then some (.iconst 3, 1, 0, 0, 0, 0) else none)))) else (if pc < 96 then (if pc < 92 then (if pc < 91 then (if pc = 90 then some (.irem, 1, 0, 0, 0, 0) else none) else (if pc = 91 then some (.iload_n 1, 1, 0, 0, 0, 0) else none)) else (if pc < 95 then (if pc = 92 then some (.if_icmp .ne 19, 3, 111, 0, 0, 0) else none) else (if pc = 95 then some (.aload_n 0, 1, 0, 0, 0, 0) else none))) else (if pc < 100 then (if pc < 99 then (if pc = 96 then some (.getfield 25, 3, 0, 3, 144, 0) else none) else (if pc = 99 then some (.iload_n 2, 1, 0, 0, 0, 0) else none)) else (if pc < 101 then (if pc = 100 then some (.iconst 2, 1, 0, 0, 0, 0) else none) else (if pc = 101 then some (.invokevirtual 98, 3, 44, 2, 280, 0) else none))))) else (if pc < 118 then (if pc < 112 then (if pc < 108 then (if pc < 107 then (if pc = 104 then some (.ifCond .eq 7, 3, 111, 0, 0, 0) else none) else (if pc = 107 then some (.iconst 5, 1, 0, 0, 0, 0) else none)) else (if pc < 111 then (if pc = 108 then some (.goto 4, 3, 112, 0, 0, 0) else none) else (if pc = 111 then some (.iconst 0, 1, 0, 0, 0, 0) else none))) else (if pc < 114 then (if pc < 113 then (if pc = 112 then some (.ireturn, 1, 0, 0, 0, 0) else none) else (if pc = 113 then some (.aload_n 0, 1, 0, 0, 0, 0) else none)) else (if pc < 117 then (if pc = 114 then some (.getfield 25, 3, 0, 3, 144, 0) else none) else (if pc = 117 then some (.iload_n 2, 1, 0, 0, 0, 0) else none)))) else (if pc < 127 then (if pc < 123 then (if pc < 120 then (if pc = 118 then some (.bipush 32, 2, 0, 0, 0, 0) else none) else (if pc = 120 then some (.invokevirtual 229, 3, 48, 2, 399, 0) else none)) else (if pc < 126 then (if pc = 123 then some (.ifCond .eq 7, 3, 130, 0, 0, 0) else none) else (if pc = 126 then some (.iconst 5, 1, 0, 0, 0, 0) else none))) else (if pc < 131 then (if pc < 130 then (if pc = 127 then some (.goto 4, 3, 131, 0, 0, 0) else none) else (if pc = 130 then some (.iconst 0, 1, 0, 0, 0, 0) else none)) else (if pc < 132 then (if pc = 131 then some (.ireturn, 1, 0, 0, 0, 0) else none) else (if pc < 133 then (if pc = 132 then some (.iconst 0, 1, 0, 0, 0, 0) else none) else (if pc = 133 then some (.ireturn, 1, 0, 0, 0, 0) else none)))))))
def f_X3_pay (pc : Nat) : Option En := if pc < 61 then (if pc < 32 then (if pc < 14 then (if pc < 6 then (if pc < 4 then (if pc < 1 then (if pc = 0 then some (.aload_n 0, 1, 0, 0, 0, 0) else none) else (if pc = 1 then some (.getfield 39, 3, 0, 5, 148, 0) else none)) else (if pc < 5 then (if pc = 4 then some (.iload_n 1, 1, 0, 0, 0, 0) else none) else (if pc = 5 then some (.aload_n 0, 1, 0, 0, 0, 0) else none))) else (if pc < 10 then (if pc < 7 then (if pc = 6 then some (.iload_n 2, 1, 0, 0, 0, 0) else none) else (if pc = 7 then some (.invokevirtual 226, 3, 38, 1, 381, 0) else none)) else (if pc < 13 then (if pc = 10 then some (.invokevirtual 232, 3, 62, 2, 395, 0) else none) else (if pc = 13 then some (.aload_n 0, 1, 0, 0, 0, 0) else none)))) else (if pc < 24 then (if pc < 18 then (if pc < 17 then (if pc = 14 then some (.getfield 25, 3, 0, 3, 144, 0) else none) else (if pc = 17 then some (.iload_n 2, 1, 0, 0, 0, 0) else none)) else (if pc < 21 then (if pc = 18 then some (.sipush 256, 3, 0, 0, 0, 0) else none) else (if pc = 21 then some (.invokevirtual 229, 3, 48, 2, 399, 0) else none))) else (if pc < 28 then (if pc < 27 then (if pc = 24 then some (.invokestatic 235, 3, 95, 1, 403, 0) else none) else (if pc = 27 then some (.iconst 1, 1, 0, 0, 0, 0) else none)) else (if pc < 31 then (if pc = 28 then some (.if_icmp .ne 13, 3, 41, 0, 0, 0) else none) else (if pc = 31 then some (.aload_n 0, 1, 0, 0, 0, 0) else none))))) else (if pc < 46 then (if pc < 38 then (if pc < 36 then (if pc < 33 then (if pc = 32 then some (.dup, 1, 0, 0, 0, 0) else none) else (if pc = 33 then some (.getfield 82, 3, 0, 8, 152, 0) else none)) else (if pc < 37 then (if pc = 36 then some (.iconst 1, 1, 0, 0, 0, 0) else none) else (if pc = 37 then some (.iadd, 1, 0, 0, 0, 0) else none))) else (if pc < 42 then (if pc < 41 then (if pc = 38 then some (.putfield 82, 3, 0, 8, 152, 0) else none) else (if pc = 41 then some (.aload_n 0, 1, 0, 0, 0, 0) else none)) else (if pc < 45 then (if pc = 42 then some (.getfield 25, 3, 0, 3, 144, 0) else none) else (if pc = 45 then some (.iload_n 2, 1, 0, 0, 0, 0) else none)))) else (if pc < 54 then (if pc < 50 then (if pc < 49 then (if pc = 46 then some (.sipush 256, 3, 0, 0, 0, 0) else none) else (if pc = 49 then some (.iload_n 1, 1, 0, 0, 0, 0) else none)) else (if pc < 51 then (if pc = 50 then some (.ishl, 1, 0, 0, 0, 0) else none) else (if pc = 51 then some (.invokevirtual 102, 3, 45, 2, 284, 0) else none))) else (if pc < 58 then (if pc < 55 then (if pc = 54 then some (.aload_n 0, 1, 0, 0, 0, 0) else none) else (if pc = 55 then some (.getfield 25, 3, 0, 3, 144, 0) else none)) else (if pc < 59 then (if pc = 58 then some (.iload_n 2, 1, 0, 0, 0, 0) else none) else (if pc < 60 then (if pc = 59 then some (.iload_n 1, 1, 0, 0, 0, 0) else none) else (if pc = 60 then some (.aload_n 0, 1, 0, 0, 0, 0) else none))))))) else (if pc < 88 then (if pc < 76 then (if pc < 71 then (if pc < 67 then (if pc < 64 then (if pc = 61 then some (.getfield 57, 3, 0, 0, 140, 0) else none) else (if pc = 64 then some (.invokevirtual 240, 3, 50, 3, 409, 0) else none)) else (if pc < 68 then (if pc = 67 then some (.aload_n 0, 1, 0, 0, 0, 0) else none) else (if pc = 68 then some (.getfield 25, 3, 0, 3, 144, 0) else none))) else (if pc < 74 then (if pc < 72 then (if pc = 71 then some (.iload_n 2, 1, 0, 0, 0, 0) else none) else (if pc = 72 then some (.bipush 32, 2, 0, 0, 0, 0) else none)) else (if pc < 75 then (if pc = 74 then some (.iload_n 1, 1, 0, 0, 0, 0) else none) else (if pc = 75 then some (.ishl, 1, 0, 0, 0, 0) else none)))) else (if pc < 82 then (if pc < 80 then (if pc < 79 then (if pc = 76 then some (.invokevirtual 102, 3, 45, 2, 284, 0) else none) else (if pc = 79 then some (.iconst 0, 1, 0, 0, 0, 0) else none)) else (if pc < 81 then (if pc = 80 then some (.istore_n 3, 1, 0, 0, 0, 0) else none) else (if pc = 81 then some (.iload_n 3, 1, 0, 0, 0, 0) else none))) else (if pc < 86 then (if pc < 83 then (if pc = 82 then some (.iconst 3, 1, 0, 0, 0, 0) else none) else (if pc = 83 then some (.if_icmp .ge 35, 3, 118, 0, 0, 0) else none)) else (if pc < 87 then (if pc = 86 then some (.iload_n 3, 1, 0, 0, 0, 0) else none) else (if pc = 87 then some (.iload_n 1, 1, 0, 0, 0, 0) else none))))) else (if pc < 102 then (if pc < 96 then (if pc < 92 then (if pc < 91 then (if pc = 88 then some (.if_icmp .eq 24, 3, 112, 0, 0, 0) else none) else (if pc = 91 then some (.aload_n 0, 1, 0, 0, 0, 0) else none)) else (if pc < 95 then (if pc = 92 then some (.getfield 46, 3, 0, 6, 150, 0) else none) else (if pc = 95 then some (.iconst 0, 1, 0, 0, 0, 0) else none))) else (if pc < 98 then (if pc < 97 then (if pc = 96 then some (.iload_n 3, 1, 0, 0, 0, 0) else none) else (if pc = 97 then some (.iload_n 2, 1, 0, 0, 0, 0) else none)) else (if pc < 99 then (if pc = 98 then some (.aload_n 0, 1, 0, 0, 0, 0) else none) else (if pc = 99 then some (.getfield 57, 3, 0, 0, 140, 0) else none)))) else (if pc < 108 then (if pc < 106 then (if pc < 103 then (if pc = 102 then some (.aload_n 0, 1, 0, 0, 0, 0) else none) else (if pc = 103 then some (.getfield 15, 3, 0, 2, 142, 0) else none)) else (if pc < 107 then (if pc = 106 then some (.iconst 1, 1, 0, 0, 0, 0) else none) else (if pc = 107 then some (.iaload, 1, 0, 0, 0, 0) else none))) else (if pc < 112 then (if pc < 109 then (if pc = 108 then some (.iadd, 1, 0, 0, 0, 0) else none) else (if pc = 109 then some (.invokevirtual 195, 3, 14, 4, 369, 0) else none)) else (if pc < 115 then (if pc = 112 then some (.iinc 3 1, 3, 0, 0, 0, 0) else none) else (if pc < 118 then (if pc = 115 then some (.goto (-34), 3, 81, 0, 0, 0) else none) else (if pc = 118 then some (.return_, 1, 0, 0, 0, 0) else none)))))))
def f_X3_settleFirstDispute (pc : Nat) : Option En := if pc < 62 then (if pc < 32 then (if pc < 15 then (if pc < 8 then (if pc < 4 then (if pc < 1 then (if pc = 0 then some (.aload_n 0, 1, 0, 0, 0, 0) else none) else (if pc = 1 then some (.getfield 53, 3, 0, 7, 151, 0) else none)) else (if pc < 7 then (if pc = 4 then some (.invokevirtual 244, 3, 3, 0, 457, 0) else none) else (if pc = 7 then some (.istore_n 1, 1, 0, 0, 0, 0) else none))) else (if pc < 11 then (if pc < 9 then (if pc = 8 then some (.iload_n 1, 1, 0, 0, 0, 0) else none) else (if pc = 9 then some (.bipush (-5), 2, 0, 0, 0, 0) else none)) else (if pc < 14 then (if pc = 11 then some (.if_icmp .ne 4, 3, 15, 0, 0, 0) else none) else (if pc = 14 then some (.return_, 1, 0, 0, 0, 0) else none)))) else (if pc < 21 then (if pc < 19 then (if pc < 16 then (if pc = 15 then some (.aload_n 0, 1, 0, 0, 0, 0) else none) else (if pc = 16 then some (.getfield 25, 3, 0, 3, 144, 0) else none)) else (if pc < 20 then (if pc = 19 then some (.iload_n 1, 1, 0, 0, 0, 0) else none) else (if pc = 20 then some (.iconst 4, 1, 0, 0, 0, 0) else none))) else (if pc < 25 then (if pc < 24 then (if pc = 21 then some (.invokevirtual 205, 3, 46, 2, 413, 0) else none) else (if pc = 24 then some (.aload_n 0, 1, 0, 0, 0, 0) else none)) else (if pc < 28 then (if pc = 25 then some (.getfield 25, 3, 0, 3, 144, 0) else none) else (if pc < 29 then (if pc = 28 then some (.iload_n 1, 1, 0, 0, 0, 0) else none) else (if pc = 29 then some (.invokevirtual 246, 3, 51, 1, 461, 0) else none)))))) else (if pc < 44 then (if pc < 38 then (if pc < 34 then (if pc < 33 then (if pc = 32 then some (.istore_n 2, 1, 0, 0, 0, 0) else none) else (if pc = 33 then some (.aload_n 0, 1, 0, 0, 0, 0) else none)) else (if pc < 35 then (if pc = 34 then some (.iload_n 1, 1, 0, 0, 0, 0) else none) else (if pc = 35 then some (.invokevirtual 226, 3, 38, 1, 381, 0) else none))) else (if pc < 40 then (if pc < 39 then (if pc = 38 then some (.istore_n 3, 1, 0, 0, 0, 0) else none) else (if pc = 39 then some (.iconst 0, 1, 0, 0, 0, 0) else none)) else (if pc < 42 then (if pc = 40 then some (.istore 4, 2, 0, 0, 0, 0) else none) else (if pc = 42 then some (.iload 4, 2, 0, 0, 0, 0) else none)))) else (if pc < 51 then (if pc < 48 then (if pc < 45 then (if pc = 44 then some (.iconst 3, 1, 0, 0, 0, 0) else none) else (if pc = 45 then some (.if_icmp .ge 83, 3, 128, 0, 0, 0) else none)) else (if pc < 50 then (if pc = 48 then some (.iload 4, 2, 0, 0, 0, 0) else none) else (if pc = 50 then some (.iload_n 2, 1, 0, 0, 0, 0) else none))) else (if pc < 55 then (if pc < 54 then (if pc = 51 then some (.if_icmp .eq 71, 3, 122, 0, 0, 0) else none) else (if pc = 54 then some (.aload_n 0, 1, 0, 0, 0, 0) else none)) else (if pc < 58 then (if pc = 55 then some (.getfield 25, 3, 0, 3, 144, 0) else none) else (if pc < 59 then (if pc = 58 then some (.iload_n 1, 1, 0, 0, 0, 0) else none) else (if pc = 59 then some (.sipush 256, 3, 0, 0, 0, 0) else none))))))) else (if pc < 98 then (if pc < 79 then (if pc < 71 then (if pc < 65 then (if pc < 64 then (if pc = 62 then some (.iload 4, 2, 0, 0, 0, 0) else none) else (if pc = 64 then some (.ishl, 1, 0, 0, 0, 0) else none)) else (if pc < 68 then (if pc = 65 then some (.invokevirtual 98, 3, 44, 2, 280, 0) else none) else (if pc = 68 then some (.ifCond .eq 54, 3, 122, 0, 0, 0) else none))) else (if pc < 75 then (if pc < 72 then (if pc = 71 then some (.aload_n 0, 1, 0, 0, 0, 0) else none) else (if pc = 72 then some (.getfield 25, 3, 0, 3, 144, 0) else none)) else (if pc < 76 then (if pc = 75 then some (.iload_n 1, 1, 0, 0, 0, 0) else none) else (if pc = 76 then some (.sipush 2048, 3, 0, 0, 0, 0) else none)))) else (if pc < 88 then (if pc < 82 then (if pc < 81 then (if pc = 79 then some (.iload 4, 2, 0, 0, 0, 0) else none) else (if pc = 81 then some (.ishl, 1, 0, 0, 0, 0) else none)) else (if pc < 85 then (if pc = 82 then some (.invokevirtual 98, 3, 44, 2, 280, 0) else none) else (if pc = 85 then some (.ifCond .ne 37, 3, 122, 0, 0, 0) else none))) else (if pc < 92 then (if pc < 89 then (if pc = 88 then some (.aload_n 0, 1, 0, 0, 0, 0) else none) else (if pc = 89 then some (.getfield 25, 3, 0, 3, 144, 0) else none)) else (if pc < 93 then (if pc = 92 then some (.iload_n 1, 1, 0, 0, 0, 0) else none) else (if pc < 96 then (if pc = 93 then some (.sipush 2048, 3, 0, 0, 0, 0) else none) else (if pc = 96 then some (.iload 4, 2, 0, 0, 0, 0) else none)))))) else (if pc < 112 then (if pc < 104 then (if pc < 102 then (if pc < 99 then (if pc = 98 then some (.ishl, 1, 0, 0, 0, 0) else none) else (if pc = 99 then some (.invokevirtual 102, 3, 45, 2, 284, 0) else none)) else (if pc < 103 then (if pc = 102 then some (.aload_n 0, 1, 0, 0, 0, 0) else none) else (if pc = 103 then some (.dup, 1, 0, 0, 0, 0) else none))) else (if pc < 108 then (if pc < 107 then (if pc = 104 then some (.getfield 85, 3, 0, 9, 154, 0) else none) else (if pc = 107 then some (.iconst 1, 1, 0, 0, 0, 0) else none)) else (if pc < 109 then (if pc = 108 then some (.iadd, 1, 0, 0, 0, 0) else none) else (if pc = 109 then some (.putfield 85, 3, 0, 9, 154, 0) else none)))) else (if pc < 118 then (if pc < 114 then (if pc < 113 then (if pc = 112 then some (.aload_n 0, 1, 0, 0, 0, 0) else none) else (if pc = 113 then some (.dup, 1, 0, 0, 0, 0) else none)) else (if pc < 117 then (if pc = 114 then some (.getfield 88, 3, 0, 10, 156, 0) else none) else (if pc = 117 then some (.iload_n 3, 1, 0, 0, 0, 0) else none))) else (if pc < 122 then (if pc < 119 then (if pc = 118 then some (.iadd, 1, 0, 0, 0, 0) else none) else (if pc = 119 then some (.putfield 88, 3, 0, 10, 156, 0) else none)) else (if pc < 125 then (if pc = 122 then some (.iinc 4 1, 3, 0, 0, 0, 0) else none) else (if pc < 128 then (if pc = 125 then some (.goto (-83), 3, 42, 0, 0, 0) else none) else (if pc = 128 then some (.return_, 1, 0, 0, 0, 0) else none)))))))
def f_X3_prizeOf (pc : Nat) : Option En := if pc < 8 then (if pc < 4 then (if pc < 1 then (if pc = 0 then some (.aload_n 0, 1, 0, 0, 0, 0) else none) else (if pc = 1 then some (.getfield 32, 3, 0, 4, 146, 0) else none)) else (if pc < 5 then (if pc = 4 then some (.iload_n 1, 1, 0, 0, 0, 0) else none) else (if pc < 7 then (if pc = 5 then some (.bipush 100, 2, 0, 0, 0, 0) else none) else (if pc = 7 then some (.idiv, 1, 0, 0, 0, 0) else none)))) else (if pc < 13 then (if pc < 9 then (if pc = 8 then some (.aload_n 0, 1, 0, 0, 0, 0) else none) else (if pc < 12 then (if pc = 9 then some (.getfield 25, 3, 0, 3, 144, 0) else none) else (if pc = 12 then some (.iload_n 1, 1, 0, 0, 0, 0) else none))) else (if pc < 16 then (if pc = 13 then some (.invokevirtual 249, 3, 47, 1, 385, 0) else none) else (if pc < 19 then (if pc = 16 then some (.invokevirtual 252, 3, 10, 2, 389, 0) else none) else (if pc = 19 then some (.ireturn, 1, 0, 0, 0, 0) else none))))
def f_X3_coinsByTickets (pc : Nat) : Option En := if pc < 30 then (if pc < 12 then (if pc < 4 then (if pc < 2 then (if pc < 1 then (if pc = 0 then some (.iconst 0, 1, 0, 0, 0, 0) else none) else (if pc = 1 then some (.istore_n 1, 1, 0, 0, 0, 0) else none)) else (if pc < 3 then (if pc = 2 then some (.iconst 0, 1, 0, 0, 0, 0) else none) else (if pc = 3 then some (.istore_n 2, 1, 0, 0, 0, 0) else none))) else (if pc < 8 then (if pc < 5 then (if pc = 4 then some (.iload_n 2, 1, 0, 0, 0, 0) else none) else (if pc = 5 then some (.sipush 600, 3, 0, 0, 0, 0) else none)) else (if pc < 11 then (if pc = 8 then some (.if_icmp .ge 49, 3, 57, 0, 0, 0) else none) else (if pc = 11 then some (.aload_n 0, 1, 0, 0, 0, 0) else none)))) else (if pc < 22 then (if pc < 16 then (if pc < 15 then (if pc = 12 then some (.getfield 25, 3, 0, 3, 144, 0) else none) else (if pc = 15 then some (.iload_n 2, 1, 0, 0, 0, 0) else none)) else (if pc < 19 then (if pc = 16 then some (.sipush 256, 3, 0, 0, 0, 0) else none) else (if pc = 19 then some (.invokevirtual 229, 3, 48, 2, 399, 0) else none))) else (if pc < 26 then (if pc < 25 then (if pc = 22 then some (.invokestatic 235, 3, 95, 1, 403, 0) else none) else (if pc = 25 then some (.aload_n 0, 1, 0, 0, 0, 0) else none)) else (if pc < 29 then (if pc = 26 then some (.getfield 25, 3, 0, 3, 144, 0) else none) else (if pc = 29 then some (.iload_n 2, 1, 0, 0, 0, 0) else none))))) else (if pc < 44 then (if pc < 40 then (if pc < 36 then (if pc < 33 then (if pc = 30 then some (.sipush 2048, 3, 0, 0, 0, 0) else none) else (if pc = 33 then some (.invokevirtual 229, 3, 48, 2, 399, 0) else none)) else (if pc < 39 then (if pc = 36 then some (.invokestatic 235, 3, 95, 1, 403, 0) else none) else (if pc = 39 then some (.isub, 1, 0, 0, 0, 0) else none))) else (if pc < 42 then (if pc < 41 then (if pc = 40 then some (.istore_n 3, 1, 0, 0, 0, 0) else none) else (if pc = 41 then some (.iload_n 1, 1, 0, 0, 0, 0) else none)) else (if pc < 43 then (if pc = 42 then some (.iload_n 3, 1, 0, 0, 0, 0) else none) else (if pc = 43 then some (.aload_n 0, 1, 0, 0, 0, 0) else none)))) else (if pc < 50 then (if pc < 48 then (if pc < 45 then (if pc = 44 then some (.iload_n 2, 1, 0, 0, 0, 0) else none) else (if pc = 45 then some (.invokevirtual 226, 3, 38, 1, 381, 0) else none)) else (if pc < 49 then (if pc = 48 then some (.imul, 1, 0, 0, 0, 0) else none) else (if pc = 49 then some (.iadd, 1, 0, 0, 0, 0) else none))) else (if pc < 54 then (if pc < 51 then (if pc = 50 then some (.istore_n 1, 1, 0, 0, 0, 0) else none) else (if pc = 51 then some (.iinc 2 1, 3, 0, 0, 0, 0) else none)) else (if pc < 57 then (if pc = 54 then some (.goto (-50), 3, 4, 0, 0, 0) else none) else (if pc < 58 then (if pc = 57 then some (.iload_n 1, 1, 0, 0, 0, 0) else none) else (if pc = 58 then some (.ireturn, 1, 0, 0, 0, 0) else none))))))
def f_X3_coinsByWindows (pc : Nat) : Option En := if pc < 7 then (if pc < 1 then (if pc = 0 then some (.aload_n 0, 1, 0, 0, 0, 0) else none) else (if pc < 4 then (if pc = 1 then some (.getfield 39, 3, 0, 5, 148, 0) else none) else (if pc = 4 then some (.invokevirtual 139, 3, 64, 0, 326, 0) else none))) else (if pc < 11 then (if pc < 8 then (if pc = 7 then some (.aload_n 0, 1, 0, 0, 0, 0) else none) else (if pc = 8 then some (.getfield 88, 3, 0, 10, 156, 0) else none)) else (if pc < 12 then (if pc = 11 then some (.isub, 1, 0, 0, 0, 0) else none) else (if pc = 12 then some (.ireturn, 1, 0, 0, 0, 0) else none)))
def f_X3_tellTicket (pc : Nat) : Option En := if pc < 115 then (if pc < 79 then (if pc < 64 then (if pc < 56 then (if pc < 52 then (if pc < 1 then (if pc = 0 then some (.iload_n 2, 1, 0, 0, 0, 0) else none) else (if pc = 1 then some (.tableswitch 173 0 8 #[51, 69, 78, 84, 99, 114, 128, 146, 155], 51, 0, 0, 0, 0) else none)) else (if pc < 53 then (if pc = 52 then some (.aload_n 0, 1, 0, 0, 0, 0) else none) else (if pc = 53 then some (.getfield 25, 3, 0, 3, 144, 0) else none))) else (if pc < 58 then (if pc < 57 then (if pc = 56 then some (.iload_n 1, 1, 0, 0, 0, 0) else none) else (if pc = 57 then some (.iconst 1, 1, 0, 0, 0, 0) else none)) else (if pc < 61 then (if pc = 58 then some (.invokevirtual 98, 3, 44, 2, 280, 0) else none) else (if pc = 61 then some (.ifCond .eq 7, 3, 68, 0, 0, 0) else none)))) else (if pc < 70 then (if pc < 68 then (if pc < 65 then (if pc = 64 then some (.iconst 1, 1, 0, 0, 0, 0) else none) else (if pc = 65 then some (.goto 4, 3, 69, 0, 0, 0) else none)) else (if pc < 69 then (if pc = 68 then some (.iconst 0, 1, 0, 0, 0, 0) else none) else (if pc = 69 then some (.ireturn, 1, 0, 0, 0, 0) else none))) else (if pc < 74 then (if pc < 71 then (if pc = 70 then some (.aload_n 0, 1, 0, 0, 0, 0) else none) else (if pc = 71 then some (.getfield 25, 3, 0, 3, 144, 0) else none)) else (if pc < 75 then (if pc = 74 then some (.iload_n 1, 1, 0, 0, 0, 0) else none) else (if pc < 78 then (if pc = 75 then some (.invokevirtual 249, 3, 47, 1, 385, 0) else none) else (if pc = 78 then some (.ireturn, 1, 0, 0, 0, 0) else none)))))) else (if pc < 96 then (if pc < 85 then (if pc < 81 then (if pc < 80 then (if pc = 79 then some (.aload_n 0, 1, 0, 0, 0, 0) else none) else (if pc = 80 then some (.iload_n 1, 1, 0, 0, 0, 0) else none)) else (if pc < 84 then (if pc = 81 then some (.invokevirtual 226, 3, 38, 1, 381, 0) else none) else (if pc = 84 then some (.ireturn, 1, 0, 0, 0, 0) else none))) else (if pc < 89 then (if pc < 86 then (if pc = 85 then some (.aload_n 0, 1, 0, 0, 0, 0) else none) else (if pc = 86 then some (.getfield 25, 3, 0, 3, 144, 0) else none)) else (if pc < 90 then (if pc = 89 then some (.iload_n 1, 1, 0, 0, 0, 0) else none) else (if pc < 93 then (if pc = 90 then some (.sipush 256, 3, 0, 0, 0, 0) else none) else (if pc = 93 then some (.invokevirtual 229, 3, 48, 2, 399, 0) else none))))) else (if pc < 104 then (if pc < 100 then (if pc < 99 then (if pc = 96 then some (.invokestatic 235, 3, 95, 1, 403, 0) else none) else (if pc = 99 then some (.ireturn, 1, 0, 0, 0, 0) else none)) else (if pc < 101 then (if pc = 100 then some (.aload_n 0, 1, 0, 0, 0, 0) else none) else (if pc = 101 then some (.getfield 25, 3, 0, 3, 144, 0) else none))) else (if pc < 108 then (if pc < 105 then (if pc = 104 then some (.iload_n 1, 1, 0, 0, 0, 0) else none) else (if pc = 105 then some (.sipush 2048, 3, 0, 0, 0, 0) else none)) else (if pc < 111 then (if pc = 108 then some (.invokevirtual 229, 3, 48, 2, 399, 0) else none) else (if pc < 114 then (if pc = 111 then some (.invokestatic 235, 3, 95, 1, 403, 0) else none) else (if pc = 114 then some (.ireturn, 1, 0, 0, 0, 0) else none))))))) else (if pc < 146 then (if pc < 129 then (if pc < 122 then (if pc < 119 then (if pc < 116 then (if pc = 115 then some (.aload_n 0, 1, 0, 0, 0, 0) else none) else (if pc = 116 then some (.getfield 25, 3, 0, 3, 144, 0) else none)) else (if pc < 120 then (if pc = 119 then some (.iload_n 1, 1, 0, 0, 0, 0) else none) else (if pc = 120 then some (.bipush 32, 2, 0, 0, 0, 0) else none))) else (if pc < 127 then (if pc < 125 then (if pc = 122 then some (.invokevirtual 229, 3, 48, 2, 399, 0) else none) else (if pc = 125 then some (.bipush 32, 2, 0, 0, 0, 0) else none)) else (if pc < 128 then (if pc = 127 then some (.idiv, 1, 0, 0, 0, 0) else none) else (if pc = 128 then some (.ireturn, 1, 0, 0, 0, 0) else none)))) else (if pc < 135 then (if pc < 133 then (if pc < 130 then (if pc = 129 then some (.aload_n 0, 1, 0, 0, 0, 0) else none) else (if pc = 130 then some (.getfield 25, 3, 0, 3, 144, 0) else none)) else (if pc < 134 then (if pc = 133 then some (.iload_n 1, 1, 0, 0, 0, 0) else none) else (if pc = 134 then some (.iconst 2, 1, 0, 0, 0, 0) else none))) else (if pc < 141 then (if pc < 138 then (if pc = 135 then some (.invokevirtual 98, 3, 44, 2, 280, 0) else none) else (if pc = 138 then some (.ifCond .eq 7, 3, 145, 0, 0, 0) else none)) else (if pc < 142 then (if pc = 141 then some (.iconst 1, 1, 0, 0, 0, 0) else none) else (if pc < 145 then (if pc = 142 then some (.goto 4, 3, 146, 0, 0, 0) else none) else (if pc = 145 then some (.iconst 0, 1, 0, 0, 0, 0) else none)))))) else (if pc < 161 then (if pc < 152 then (if pc < 148 then (if pc < 147 then (if pc = 146 then some (.ireturn, 1, 0, 0, 0, 0) else none) else (if pc = 147 then some (.aload_n 0, 1, 0, 0, 0, 0) else none)) else (if pc < 151 then (if pc = 148 then some (.getfield 39, 3, 0, 5, 148, 0) else none) else (if pc = 151 then some (.iload_n 1, 1, 0, 0, 0, 0) else none))) else (if pc < 156 then (if pc < 155 then (if pc = 152 then some (.invokevirtual 255, 3, 56, 1, 482, 0) else none) else (if pc = 155 then some (.ireturn, 1, 0, 0, 0, 0) else none)) else (if pc < 157 then (if pc = 156 then some (.aload_n 0, 1, 0, 0, 0, 0) else none) else (if pc < 160 then (if pc = 157 then some (.getfield 25, 3, 0, 3, 144, 0) else none) else (if pc = 160 then some (.iload_n 1, 1, 0, 0, 0, 0) else none))))) else (if pc < 169 then (if pc < 165 then (if pc < 162 then (if pc = 161 then some (.iconst 4, 1, 0, 0, 0, 0) else none) else (if pc = 162 then some (.invokevirtual 98, 3, 44, 2, 280, 0) else none)) else (if pc < 168 then (if pc = 165 then some (.ifCond .eq 7, 3, 172, 0, 0, 0) else none) else (if pc = 168 then some (.iconst 1, 1, 0, 0, 0, 0) else none))) else (if pc < 173 then (if pc < 172 then (if pc = 169 then some (.goto 4, 3, 173, 0, 0, 0) else none) else (if pc = 172 then some (.iconst 0, 1, 0, 0, 0, 0) else none)) else (if pc < 174 then (if pc = 173 then some (.ireturn, 1, 0, 0, 0, 0) else none) else (if pc < 176 then (if pc = 174 then some (.bipush (-2), 2, 0, 0, 0, 0) else none) else (if pc = 176 then some (.ireturn, 1, 0, 0, 0, 0) else none)))))))
def f_X3_tellTotal (pc : Nat) : Option En := if pc < 105 then (if pc < 81 then (if pc < 69 then (if pc < 64 then (if pc < 1 then (if pc = 0 then some (.iload_n 1, 1, 0, 0, 0, 0) else none) else (if pc = 1 then some (.tableswitch 144 0 11 #[63, 68, 76, 84, 89, 97, 105, 110, 118, 126, 131, 139], 63, 0, 0, 0, 0) else none)) else (if pc < 65 then (if pc = 64 then some (.aload_n 0, 1, 0, 0, 0, 0) else none) else (if pc < 68 then (if pc = 65 then some (.getfield 57, 3, 0, 0, 140, 0) else none) else (if pc = 68 then some (.ireturn, 1, 0, 0, 0, 0) else none)))) else (if pc < 76 then (if pc < 70 then (if pc = 69 then some (.aload_n 0, 1, 0, 0, 0, 0) else none) else (if pc < 73 then (if pc = 70 then some (.getfield 46, 3, 0, 6, 150, 0) else none) else (if pc = 73 then some (.getfield 162, 3, 18, 0, 112, 0) else none))) else (if pc < 77 then (if pc = 76 then some (.ireturn, 1, 0, 0, 0, 0) else none) else (if pc < 78 then (if pc = 77 then some (.aload_n 0, 1, 0, 0, 0, 0) else none) else (if pc = 78 then some (.getfield 39, 3, 0, 5, 148, 0) else none))))) else (if pc < 91 then (if pc < 86 then (if pc < 84 then (if pc = 81 then some (.invokevirtual 139, 3, 64, 0, 326, 0) else none) else (if pc < 85 then (if pc = 84 then some (.ireturn, 1, 0, 0, 0, 0) else none) else (if pc = 85 then some (.aload_n 0, 1, 0, 0, 0, 0) else none))) else (if pc < 89 then (if pc = 86 then some (.getfield 88, 3, 0, 10, 156, 0) else none) else (if pc < 90 then (if pc = 89 then some (.ireturn, 1, 0, 0, 0, 0) else none) else (if pc = 90 then some (.aload_n 0, 1, 0, 0, 0, 0) else none)))) else (if pc < 98 then (if pc < 94 then (if pc = 91 then some (.getfield 32, 3, 0, 4, 146, 0) else none) else (if pc < 97 then (if pc = 94 then some (.invokevirtual 258, 3, 7, 0, 494, 0) else none) else (if pc = 97 then some (.ireturn, 1, 0, 0, 0, 0) else none))) else (if pc < 99 then (if pc = 98 then some (.aload_n 0, 1, 0, 0, 0, 0) else none) else (if pc < 102 then (if pc = 99 then some (.getfield 39, 3, 0, 5, 148, 0) else none) else (if pc = 102 then some (.invokevirtual 261, 3, 63, 0, 498, 0) else none)))))) else (if pc < 127 then (if pc < 115 then (if pc < 110 then (if pc < 106 then (if pc = 105 then some (.ireturn, 1, 0, 0, 0, 0) else none) else (if pc < 107 then (if pc = 106 then some (.aload_n 0, 1, 0, 0, 0, 0) else none) else (if pc = 107 then some (.getfield 85, 3, 0, 9, 154, 0) else none))) else (if pc < 111 then (if pc = 110 then some (.ireturn, 1, 0, 0, 0, 0) else none) else (if pc < 112 then (if pc = 111 then some (.aload_n 0, 1, 0, 0, 0, 0) else none) else (if pc = 112 then some (.getfield 53, 3, 0, 7, 151, 0) else none)))) else (if pc < 120 then (if pc < 118 then (if pc = 115 then some (.getfield 264, 3, 21, 1, 131, 0) else none) else (if pc < 119 then (if pc = 118 then some (.ireturn, 1, 0, 0, 0, 0) else none) else (if pc = 119 then some (.aload_n 0, 1, 0, 0, 0, 0) else none))) else (if pc < 123 then (if pc = 120 then some (.getfield 53, 3, 0, 7, 151, 0) else none) else (if pc < 126 then (if pc = 123 then some (.getfield 267, 3, 21, 0, 129, 0) else none) else (if pc = 126 then some (.ireturn, 1, 0, 0, 0, 0) else none))))) else (if pc < 139 then (if pc < 132 then (if pc < 128 then (if pc = 127 then some (.aload_n 0, 1, 0, 0, 0, 0) else none) else (if pc < 131 then (if pc = 128 then some (.getfield 82, 3, 0, 8, 152, 0) else none) else (if pc = 131 then some (.ireturn, 1, 0, 0, 0, 0) else none))) else (if pc < 133 then (if pc = 132 then some (.aload_n 0, 1, 0, 0, 0, 0) else none) else (if pc < 136 then (if pc = 133 then some (.getfield 39, 3, 0, 5, 148, 0) else none) else (if pc = 136 then some (.invokevirtual 268, 3, 66, 0, 502, 0) else none)))) else (if pc < 144 then (if pc < 140 then (if pc = 139 then some (.ireturn, 1, 0, 0, 0, 0) else none) else (if pc < 141 then (if pc = 140 then some (.aload_n 0, 1, 0, 0, 0, 0) else none) else (if pc = 141 then some (.getfield 9, 3, 0, 1, 141, 0) else none))) else (if pc < 145 then (if pc = 144 then some (.ireturn, 1, 0, 0, 0, 0) else none) else (if pc < 147 then (if pc = 145 then some (.bipush (-2), 2, 0, 0, 0, 0) else none) else (if pc = 147 then some (.ireturn, 1, 0, 0, 0, 0) else none))))))
def f_X5_copyFrom (pc : Nat) : Option En := if pc < 16 then (if pc < 6 then (if pc < 4 then (if pc < 1 then (if pc = 0 then some (.aload_n 1, 1, 0, 0, 0, 0) else none) else (if pc = 1 then some (.getfield 9, 3, 2, 0, 47, 0) else none)) else (if pc < 5 then (if pc = 4 then some (.iconst 0, 1, 0, 0, 0, 0) else none) else (if pc = 5 then some (.aload_n 0, 1, 0, 0, 0, 0) else none))) else (if pc < 10 then (if pc < 9 then (if pc = 6 then some (.getfield 9, 3, 2, 0, 47, 0) else none) else (if pc = 9 then some (.iconst 0, 1, 0, 0, 0, 0) else none)) else (if pc < 13 then (if pc = 10 then some (.sipush 600, 3, 0, 0, 0, 0) else none) else (if pc = 13 then some (.invokestatic 18, 3, 9999, 5, 248, 0) else none)))) else (if pc < 22 then (if pc < 20 then (if pc < 17 then (if pc = 16 then some (.aload_n 1, 1, 0, 0, 0, 0) else none) else (if pc = 17 then some (.getfield 15, 3, 2, 1, 48, 0) else none)) else (if pc < 21 then (if pc = 20 then some (.iconst 0, 1, 0, 0, 0, 0) else none) else (if pc = 21 then some (.aload_n 0, 1, 0, 0, 0, 0) else none))) else (if pc < 26 then (if pc < 25 then (if pc = 22 then some (.getfield 15, 3, 2, 1, 48, 0) else none) else (if pc = 25 then some (.iconst 0, 1, 0, 0, 0, 0) else none)) else (if pc < 29 then (if pc = 26 then some (.sipush 600, 3, 0, 0, 0, 0) else none) else (if pc < 32 then (if pc = 29 then some (.invokestatic 18, 3, 9999, 5, 248, 0) else none) else (if pc = 32 then some (.return_, 1, 0, 0, 0, 0) else none)))))
def f_X5_has (pc : Nat) : Option En := if pc < 16 then (if pc < 8 then (if pc < 4 then (if pc < 1 then (if pc = 0 then some (.iload_n 1, 1, 0, 0, 0, 0) else none) else (if pc = 1 then some (.ifCond .lt 25, 3, 26, 0, 0, 0) else none)) else (if pc < 5 then (if pc = 4 then some (.iload_n 1, 1, 0, 0, 0, 0) else none) else (if pc = 5 then some (.sipush 600, 3, 0, 0, 0, 0) else none))) else (if pc < 12 then (if pc < 11 then (if pc = 8 then some (.if_icmp .ge 18, 3, 26, 0, 0, 0) else none) else (if pc = 11 then some (.aload_n 0, 1, 0, 0, 0, 0) else none)) else (if pc < 15 then (if pc = 12 then some (.getfield 9, 3, 2, 0, 47, 0) else none) else (if pc = 15 then some (.iload_n 1, 1, 0, 0, 0, 0) else none)))) else (if pc < 22 then (if pc < 18 then (if pc < 17 then (if pc = 16 then some (.iaload, 1, 0, 0, 0, 0) else none) else (if pc = 17 then some (.iload_n 2, 1, 0, 0, 0, 0) else none)) else (if pc < 19 then (if pc = 18 then some (.iand, 1, 0, 0, 0, 0) else none) else (if pc = 19 then some (.ifCond .eq 7, 3, 26, 0, 0, 0) else none))) else (if pc < 26 then (if pc < 23 then (if pc = 22 then some (.iconst 1, 1, 0, 0, 0, 0) else none) else (if pc = 23 then some (.goto 4, 3, 27, 0, 0, 0) else none)) else (if pc < 27 then (if pc = 26 then some (.iconst 0, 1, 0, 0, 0, 0) else none) else (if pc = 27 then some (.ireturn, 1, 0, 0, 0, 0) else none))))
def f_X5_add (pc : Nat) : Option En := if pc < 15 then (if pc < 5 then (if pc < 1 then (if pc = 0 then some (.iload_n 1, 1, 0, 0, 0, 0) else none) else (if pc < 4 then (if pc = 1 then some (.ifCond .lt 20, 3, 21, 0, 0, 0) else none) else (if pc = 4 then some (.iload_n 1, 1, 0, 0, 0, 0) else none))) else (if pc < 11 then (if pc < 8 then (if pc = 5 then some (.sipush 600, 3, 0, 0, 0, 0) else none) else (if pc = 8 then some (.if_icmp .ge 13, 3, 21, 0, 0, 0) else none)) else (if pc < 12 then (if pc = 11 then some (.aload_n 0, 1, 0, 0, 0, 0) else none) else (if pc = 12 then some (.getfield 9, 3, 2, 0, 47, 0) else none)))) else (if pc < 18 then (if pc < 16 then (if pc = 15 then some (.iload_n 1, 1, 0, 0, 0, 0) else none) else (if pc < 17 then (if pc = 16 then some (.dup2, 1, 0, 0, 0, 0) else none) else (if pc = 17 then some (.iaload, 1, 0, 0, 0, 0) else none))) else (if pc < 20 then (if pc < 19 then (if pc = 18 then some (.iload_n 2, 1, 0, 0, 0, 0) else none) else (if pc = 19 then some (.ior, 1, 0, 0, 0, 0) else none)) else (if pc < 21 then (if pc = 20 then some (.iastore, 1, 0, 0, 0, 0) else none) else (if pc = 21 then some (.return_, 1, 0, 0, 0, 0) else none))))
def f_X5_remove (pc : Nat) : Option En := if pc < 16 then (if pc < 8 then (if pc < 4 then (if pc < 1 then (if pc = 0 then some (.iload_n 1, 1, 0, 0, 0, 0) else none) else (if pc = 1 then some (.ifCond .lt 22, 3, 23, 0, 0, 0) else none)) else (if pc < 5 then (if pc = 4 then some (.iload_n 1, 1, 0, 0, 0, 0) else none) else (if pc = 5 then some (.sipush 600, 3, 0, 0, 0, 0) else none))) else (if pc < 12 then (if pc < 11 then (if pc = 8 then some (.if_icmp .ge 15, 3, 23, 0, 0, 0) else none) else (if pc = 11 then some (.aload_n 0, 1, 0, 0, 0, 0) else none)) else (if pc < 15 then (if pc = 12 then some (.getfield 9, 3, 2, 0, 47, 0) else none) else (if pc = 15 then some (.iload_n 1, 1, 0, 0, 0, 0) else none)))) else (if pc < 20 then (if pc < 18 then (if pc < 17 then (if pc = 16 then some (.dup2, 1, 0, 0, 0, 0) else none) else (if pc = 17 then some (.iaload, 1, 0, 0, 0, 0) else none)) else (if pc < 19 then (if pc = 18 then some (.iload_n 2, 1, 0, 0, 0, 0) else none) else (if pc = 19 then some (.iconst (-1), 1, 0, 0, 0, 0) else none))) else (if pc < 22 then (if pc < 21 then (if pc = 20 then some (.ixor, 1, 0, 0, 0, 0) else none) else (if pc = 21 then some (.iand, 1, 0, 0, 0, 0) else none)) else (if pc < 23 then (if pc = 22 then some (.iastore, 1, 0, 0, 0, 0) else none) else (if pc = 23 then some (.return_, 1, 0, 0, 0, 0) else none))))
def f_X5_classOfTicket (pc : Nat) : Option En := if pc < 16 then (if pc < 8 then (if pc < 4 then (if pc < 1 then (if pc = 0 then some (.iload_n 1, 1, 0, 0, 0, 0) else none) else (if pc = 1 then some (.ifCond .lt 24, 3, 25, 0, 0, 0) else none)) else (if pc < 5 then (if pc = 4 then some (.iload_n 1, 1, 0, 0, 0, 0) else none) else (if pc = 5 then some (.sipush 600, 3, 0, 0, 0, 0) else none))) else (if pc < 12 then (if pc < 11 then (if pc = 8 then some (.if_icmp .ge 17, 3, 25, 0, 0, 0) else none) else (if pc = 11 then some (.aload_n 0, 1, 0, 0, 0, 0) else none)) else (if pc < 15 then (if pc = 12 then some (.getfield 9, 3, 2, 0, 47, 0) else none) else (if pc = 15 then some (.iload_n 1, 1, 0, 0, 0, 0) else none)))) else (if pc < 21 then (if pc < 19 then (if pc < 17 then (if pc = 16 then some (.iaload, 1, 0, 0, 0, 0) else none) else (if pc = 17 then some (.bipush 8, 2, 0, 0, 0, 0) else none)) else (if pc < 20 then (if pc = 19 then some (.idiv, 1, 0, 0, 0, 0) else none) else (if pc = 20 then some (.iconst 3, 1, 0, 0, 0, 0) else none))) else (if pc < 25 then (if pc < 22 then (if pc = 21 then some (.iand, 1, 0, 0, 0, 0) else none) else (if pc = 22 then some (.goto 4, 3, 26, 0, 0, 0) else none)) else (if pc < 26 then (if pc = 25 then some (.iconst 0, 1, 0, 0, 0, 0) else none) else (if pc = 26 then some (.ireturn, 1, 0, 0, 0, 0) else none))))
def f_X5_windowBits (pc : Nat) : Option En := if pc < 16 then (if pc < 8 then (if pc < 4 then (if pc < 1 then (if pc = 0 then some (.iload_n 1, 1, 0, 0, 0, 0) else none) else (if pc = 1 then some (.ifCond .lt 24, 3, 25, 0, 0, 0) else none)) else (if pc < 5 then (if pc = 4 then some (.iload_n 1, 1, 0, 0, 0, 0) else none) else (if pc = 5 then some (.sipush 600, 3, 0, 0, 0, 0) else none))) else (if pc < 12 then (if pc < 11 then (if pc = 8 then some (.if_icmp .ge 17, 3, 25, 0, 0, 0) else none) else (if pc = 11 then some (.aload_n 0, 1, 0, 0, 0, 0) else none)) else (if pc < 15 then (if pc = 12 then some (.getfield 9, 3, 2, 0, 47, 0) else none) else (if pc = 15 then some (.iload_n 1, 1, 0, 0, 0, 0) else none)))) else (if pc < 21 then (if pc < 19 then (if pc < 17 then (if pc = 16 then some (.iaload, 1, 0, 0, 0, 0) else none) else (if pc = 17 then some (.bipush 7, 2, 0, 0, 0, 0) else none)) else (if pc < 20 then (if pc = 19 then some (.iload_n 2, 1, 0, 0, 0, 0) else none) else (if pc = 20 then some (.imul, 1, 0, 0, 0, 0) else none))) else (if pc < 25 then (if pc < 22 then (if pc = 21 then some (.iand, 1, 0, 0, 0, 0) else none) else (if pc = 22 then some (.goto 4, 3, 26, 0, 0, 0) else none)) else (if pc < 26 then (if pc = 25 then some (.iconst 0, 1, 0, 0, 0, 0) else none) else (if pc = 26 then some (.ireturn, 1, 0, 0, 0, 0) else none))))
def f_X5_marksOf (pc : Nat) : Option En := if pc < 16 then (if pc < 5 then (if pc < 2 then (if pc < 1 then (if pc = 0 then some (.iconst 0, 1, 0, 0, 0, 0) else none) else (if pc = 1 then some (.istore_n 2, 1, 0, 0, 0, 0) else none)) else (if pc < 3 then (if pc = 2 then some (.iconst 0, 1, 0, 0, 0, 0) else none) else (if pc < 4 then (if pc = 3 then some (.istore_n 3, 1, 0, 0, 0, 0) else none) else (if pc = 4 then some (.iload_n 3, 1, 0, 0, 0, 0) else none)))) else (if pc < 11 then (if pc < 8 then (if pc = 5 then some (.sipush 600, 3, 0, 0, 0, 0) else none) else (if pc = 8 then some (.if_icmp .ge 26, 3, 34, 0, 0, 0) else none)) else (if pc < 12 then (if pc = 11 then some (.aload_n 0, 1, 0, 0, 0, 0) else none) else (if pc < 15 then (if pc = 12 then some (.getfield 9, 3, 2, 0, 47, 0) else none) else (if pc = 15 then some (.iload_n 3, 1, 0, 0, 0, 0) else none))))) else (if pc < 22 then (if pc < 19 then (if pc < 17 then (if pc = 16 then some (.iaload, 1, 0, 0, 0, 0) else none) else (if pc = 17 then some (.bipush 32, 2, 0, 0, 0, 0) else none)) else (if pc < 20 then (if pc = 19 then some (.iload_n 1, 1, 0, 0, 0, 0) else none) else (if pc < 21 then (if pc = 20 then some (.ishl, 1, 0, 0, 0, 0) else none) else (if pc = 21 then some (.iand, 1, 0, 0, 0, 0) else none)))) else (if pc < 31 then (if pc < 25 then (if pc = 22 then some (.ifCond .eq 6, 3, 28, 0, 0, 0) else none) else (if pc < 28 then (if pc = 25 then some (.iinc 2 1, 3, 0, 0, 0, 0) else none) else (if pc = 28 then some (.iinc 3 1, 3, 0, 0, 0, 0) else none))) else (if pc < 34 then (if pc = 31 then some (.goto (-27), 3, 4, 0, 0, 0) else none) else (if pc < 35 then (if pc = 34 then some (.iload_n 2, 1, 0, 0, 0, 0) else none) else (if pc = 35 then some (.ireturn, 1, 0, 0, 0, 0) else none)))))
def f_X5_notePayment (pc : Nat) : Option En := if pc < 24 then (if pc < 7 then (if pc < 3 then (if pc < 1 then (if pc = 0 then some (.iload_n 3, 1, 0, 0, 0, 0) else none) else (if pc < 2 then (if pc = 1 then some (.iconst 3, 1, 0, 0, 0, 0) else none) else (if pc = 2 then some (.imul, 1, 0, 0, 0, 0) else none))) else (if pc < 5 then (if pc < 4 then (if pc = 3 then some (.iload_n 2, 1, 0, 0, 0, 0) else none) else (if pc = 4 then some (.iadd, 1, 0, 0, 0, 0) else none)) else (if pc < 6 then (if pc = 5 then some (.iconst 1, 1, 0, 0, 0, 0) else none) else (if pc = 6 then some (.iadd, 1, 0, 0, 0, 0) else none)))) else (if pc < 14 then (if pc < 10 then (if pc < 9 then (if pc = 7 then some (.istore 4, 2, 0, 0, 0, 0) else none) else (if pc = 9 then some (.iload_n 1, 1, 0, 0, 0, 0) else none)) else (if pc < 13 then (if pc = 10 then some (.ifCond .lt 38, 3, 48, 0, 0, 0) else none) else (if pc = 13 then some (.iload_n 1, 1, 0, 0, 0, 0) else none))) else (if pc < 20 then (if pc < 17 then (if pc = 14 then some (.sipush 600, 3, 0, 0, 0, 0) else none) else (if pc = 17 then some (.if_icmp .ge 31, 3, 48, 0, 0, 0) else none)) else (if pc < 21 then (if pc = 20 then some (.aload_n 0, 1, 0, 0, 0, 0) else none) else (if pc = 21 then some (.getfield 15, 3, 2, 1, 48, 0) else none))))) else (if pc < 36 then (if pc < 29 then (if pc < 25 then (if pc = 24 then some (.iload_n 1, 1, 0, 0, 0, 0) else none) else (if pc < 26 then (if pc = 25 then some (.iaload, 1, 0, 0, 0, 0) else none) else (if pc = 26 then some (.ifCond .eq 14, 3, 40, 0, 0, 0) else none))) else (if pc < 32 then (if pc < 31 then (if pc = 29 then some (.iload 4, 2, 0, 0, 0, 0) else none) else (if pc = 31 then some (.aload_n 0, 1, 0, 0, 0, 0) else none)) else (if pc < 35 then (if pc = 32 then some (.getfield 15, 3, 2, 1, 48, 0) else none) else (if pc = 35 then some (.iload_n 1, 1, 0, 0, 0, 0) else none)))) else (if pc < 44 then (if pc < 40 then (if pc < 37 then (if pc = 36 then some (.iaload, 1, 0, 0, 0, 0) else none) else (if pc = 37 then some (.if_icmp .ge 11, 3, 48, 0, 0, 0) else none)) else (if pc < 41 then (if pc = 40 then some (.aload_n 0, 1, 0, 0, 0, 0) else none) else (if pc = 41 then some (.getfield 15, 3, 2, 1, 48, 0) else none))) else (if pc < 47 then (if pc < 45 then (if pc = 44 then some (.iload_n 1, 1, 0, 0, 0, 0) else none) else (if pc = 45 then some (.iload 4, 2, 0, 0, 0, 0) else none)) else (if pc < 48 then (if pc = 47 then some (.iastore, 1, 0, 0, 0, 0) else none) else (if pc = 48 then some (.return_, 1, 0, 0, 0, 0) else none)))))
def f_X5_firstPayer (pc : Nat) : Option En := if pc < 20 then (if pc < 11 then (if pc < 4 then (if pc < 1 then (if pc = 0 then some (.iload_n 1, 1, 0, 0, 0, 0) else none) else (if pc = 1 then some (.ifCond .lt 19, 3, 20, 0, 0, 0) else none)) else (if pc < 5 then (if pc = 4 then some (.iload_n 1, 1, 0, 0, 0, 0) else none) else (if pc < 8 then (if pc = 5 then some (.sipush 600, 3, 0, 0, 0, 0) else none) else (if pc = 8 then some (.if_icmp .ge 12, 3, 20, 0, 0, 0) else none)))) else (if pc < 15 then (if pc < 12 then (if pc = 11 then some (.aload_n 0, 1, 0, 0, 0, 0) else none) else (if pc = 12 then some (.getfield 15, 3, 2, 1, 48, 0) else none)) else (if pc < 16 then (if pc = 15 then some (.iload_n 1, 1, 0, 0, 0, 0) else none) else (if pc < 17 then (if pc = 16 then some (.iaload, 1, 0, 0, 0, 0) else none) else (if pc = 17 then some (.ifCond .ne 6, 3, 23, 0, 0, 0) else none))))) else (if pc < 28 then (if pc < 23 then (if pc < 22 then (if pc = 20 then some (.bipush (-5), 2, 0, 0, 0, 0) else none) else (if pc = 22 then some (.ireturn, 1, 0, 0, 0, 0) else none)) else (if pc < 24 then (if pc = 23 then some (.aload_n 0, 1, 0, 0, 0, 0) else none) else (if pc < 27 then (if pc = 24 then some (.getfield 15, 3, 2, 1, 48, 0) else none) else (if pc = 27 then some (.iload_n 1, 1, 0, 0, 0, 0) else none)))) else (if pc < 31 then (if pc < 29 then (if pc = 28 then some (.iaload, 1, 0, 0, 0, 0) else none) else (if pc < 30 then (if pc = 29 then some (.iconst 1, 1, 0, 0, 0, 0) else none) else (if pc = 30 then some (.isub, 1, 0, 0, 0, 0) else none))) else (if pc < 32 then (if pc = 31 then some (.iconst 3, 1, 0, 0, 0, 0) else none) else (if pc < 33 then (if pc = 32 then some (.irem, 1, 0, 0, 0, 0) else none) else (if pc = 33 then some (.ireturn, 1, 0, 0, 0, 0) else none)))))
def f_X6_copyFrom (pc : Nat) : Option En := if pc < 57 then (if pc < 29 then (if pc < 15 then (if pc < 6 then (if pc < 4 then (if pc < 1 then (if pc = 0 then some (.aload_n 1, 1, 0, 0, 0, 0) else none) else (if pc = 1 then some (.getfield 9, 3, 9, 0, 79, 0) else none)) else (if pc < 5 then (if pc = 4 then some (.iconst 0, 1, 0, 0, 0, 0) else none) else (if pc = 5 then some (.aload_n 0, 1, 0, 0, 0, 0) else none))) else (if pc < 10 then (if pc < 9 then (if pc = 6 then some (.getfield 9, 3, 9, 0, 79, 0) else none) else (if pc = 9 then some (.iconst 0, 1, 0, 0, 0, 0) else none)) else (if pc < 12 then (if pc = 10 then some (.bipush 24, 2, 0, 0, 0, 0) else none) else (if pc = 12 then some (.invokestatic 36, 3, 9999, 5, 258, 0) else none)))) else (if pc < 21 then (if pc < 19 then (if pc < 16 then (if pc = 15 then some (.aload_n 1, 1, 0, 0, 0, 0) else none) else (if pc = 16 then some (.getfield 15, 3, 9, 1, 80, 0) else none)) else (if pc < 20 then (if pc = 19 then some (.iconst 0, 1, 0, 0, 0, 0) else none) else (if pc = 20 then some (.aload_n 0, 1, 0, 0, 0, 0) else none))) else (if pc < 25 then (if pc < 24 then (if pc = 21 then some (.getfield 15, 3, 9, 1, 80, 0) else none) else (if pc = 24 then some (.iconst 0, 1, 0, 0, 0, 0) else none)) else (if pc < 26 then (if pc = 25 then some (.iconst 3, 1, 0, 0, 0, 0) else none) else (if pc = 26 then some (.invokestatic 36, 3, 9999, 5, 258, 0) else none))))) else (if pc < 43 then (if pc < 35 then (if pc < 33 then (if pc < 30 then (if pc = 29 then some (.aload_n 1, 1, 0, 0, 0, 0) else none) else (if pc = 30 then some (.getfield 18, 3, 9, 2, 81, 0) else none)) else (if pc < 34 then (if pc = 33 then some (.iconst 0, 1, 0, 0, 0, 0) else none) else (if pc = 34 then some (.aload_n 0, 1, 0, 0, 0, 0) else none))) else (if pc < 39 then (if pc < 38 then (if pc = 35 then some (.getfield 18, 3, 9, 2, 81, 0) else none) else (if pc = 38 then some (.iconst 0, 1, 0, 0, 0, 0) else none)) else (if pc < 40 then (if pc = 39 then some (.iconst 3, 1, 0, 0, 0, 0) else none) else (if pc = 40 then some (.invokestatic 36, 3, 9999, 5, 258, 0) else none)))) else (if pc < 49 then (if pc < 47 then (if pc < 44 then (if pc = 43 then some (.aload_n 1, 1, 0, 0, 0, 0) else none) else (if pc = 44 then some (.getfield 21, 3, 9, 3, 83, 0) else none)) else (if pc < 48 then (if pc = 47 then some (.iconst 0, 1, 0, 0, 0, 0) else none) else (if pc = 48 then some (.aload_n 0, 1, 0, 0, 0, 0) else none))) else (if pc < 53 then (if pc < 52 then (if pc = 49 then some (.getfield 21, 3, 9, 3, 83, 0) else none) else (if pc = 52 then some (.iconst 0, 1, 0, 0, 0, 0) else none)) else (if pc < 54 then (if pc = 53 then some (.iconst 3, 1, 0, 0, 0, 0) else none) else (if pc = 54 then some (.invokestatic 36, 3, 9999, 5, 258, 0) else none)))))) else (if pc < 85 then (if pc < 71 then (if pc < 63 then (if pc < 61 then (if pc < 58 then (if pc = 57 then some (.aload_n 1, 1, 0, 0, 0, 0) else none) else (if pc = 58 then some (.getfield 24, 3, 9, 4, 84, 0) else none)) else (if pc < 62 then (if pc = 61 then some (.iconst 0, 1, 0, 0, 0, 0) else none) else (if pc = 62 then some (.aload_n 0, 1, 0, 0, 0, 0) else none))) else (if pc < 67 then (if pc < 66 then (if pc = 63 then some (.getfield 24, 3, 9, 4, 84, 0) else none) else (if pc = 66 then some (.iconst 0, 1, 0, 0, 0, 0) else none)) else (if pc < 68 then (if pc = 67 then some (.iconst 3, 1, 0, 0, 0, 0) else none) else (if pc = 68 then some (.invokestatic 36, 3, 9999, 5, 258, 0) else none)))) else (if pc < 77 then (if pc < 75 then (if pc < 72 then (if pc = 71 then some (.aload_n 1, 1, 0, 0, 0, 0) else none) else (if pc = 72 then some (.getfield 27, 3, 9, 5, 85, 0) else none)) else (if pc < 76 then (if pc = 75 then some (.iconst 0, 1, 0, 0, 0, 0) else none) else (if pc = 76 then some (.aload_n 0, 1, 0, 0, 0, 0) else none))) else (if pc < 81 then (if pc < 80 then (if pc = 77 then some (.getfield 27, 3, 9, 5, 85, 0) else none) else (if pc = 80 then some (.iconst 0, 1, 0, 0, 0, 0) else none)) else (if pc < 82 then (if pc = 81 then some (.iconst 3, 1, 0, 0, 0, 0) else none) else (if pc = 82 then some (.invokestatic 36, 3, 9999, 5, 258, 0) else none))))) else (if pc < 99 then (if pc < 91 then (if pc < 89 then (if pc < 86 then (if pc = 85 then some (.aload_n 1, 1, 0, 0, 0, 0) else none) else (if pc = 86 then some (.getfield 30, 3, 9, 6, 86, 0) else none)) else (if pc < 90 then (if pc = 89 then some (.iconst 0, 1, 0, 0, 0, 0) else none) else (if pc = 90 then some (.aload_n 0, 1, 0, 0, 0, 0) else none))) else (if pc < 95 then (if pc < 94 then (if pc = 91 then some (.getfield 30, 3, 9, 6, 86, 0) else none) else (if pc = 94 then some (.iconst 0, 1, 0, 0, 0, 0) else none)) else (if pc < 96 then (if pc = 95 then some (.iconst 3, 1, 0, 0, 0, 0) else none) else (if pc = 96 then some (.invokestatic 36, 3, 9999, 5, 258, 0) else none)))) else (if pc < 105 then (if pc < 103 then (if pc < 100 then (if pc = 99 then some (.aload_n 1, 1, 0, 0, 0, 0) else none) else (if pc = 100 then some (.getfield 33, 3, 9, 7, 87, 0) else none)) else (if pc < 104 then (if pc = 103 then some (.iconst 0, 1, 0, 0, 0, 0) else none) else (if pc = 104 then some (.aload_n 0, 1, 0, 0, 0, 0) else none))) else (if pc < 109 then (if pc < 108 then (if pc = 105 then some (.getfield 33, 3, 9, 7, 87, 0) else none) else (if pc = 108 then some (.iconst 0, 1, 0, 0, 0, 0) else none)) else (if pc < 110 then (if pc = 109 then some (.iconst 3, 1, 0, 0, 0, 0) else none) else (if pc < 113 then (if pc = 110 then some (.invokestatic 36, 3, 9999, 5, 258, 0) else none) else (if pc = 113 then some (.return_, 1, 0, 0, 0, 0) else none)))))))
def f_X6_append (pc : Nat) : Option En := if pc < 24 then (if pc < 10 then (if pc < 5 then (if pc < 1 then (if pc = 0 then some (.aload_n 0, 1, 0, 0, 0, 0) else none) else (if pc < 4 then (if pc = 1 then some (.getfield 15, 3, 9, 1, 80, 0) else none) else (if pc = 4 then some (.iload_n 1, 1, 0, 0, 0, 0) else none))) else (if pc < 7 then (if pc < 6 then (if pc = 5 then some (.iaload, 1, 0, 0, 0, 0) else none) else (if pc = 6 then some (.istore_n 3, 1, 0, 0, 0, 0) else none)) else (if pc < 8 then (if pc = 7 then some (.iload_n 3, 1, 0, 0, 0, 0) else none) else (if pc = 8 then some (.bipush 8, 2, 0, 0, 0, 0) else none)))) else (if pc < 17 then (if pc < 15 then (if pc < 13 then (if pc = 10 then some (.if_icmp .lt 6, 3, 16, 0, 0, 0) else none) else (if pc = 13 then some (.bipush (-3), 2, 0, 0, 0, 0) else none)) else (if pc < 16 then (if pc = 15 then some (.ireturn, 1, 0, 0, 0, 0) else none) else (if pc = 16 then some (.aload_n 0, 1, 0, 0, 0, 0) else none))) else (if pc < 21 then (if pc < 20 then (if pc = 17 then some (.getfield 9, 3, 9, 0, 79, 0) else none) else (if pc = 20 then some (.iload_n 1, 1, 0, 0, 0, 0) else none)) else (if pc < 23 then (if pc = 21 then some (.bipush 8, 2, 0, 0, 0, 0) else none) else (if pc = 23 then some (.imul, 1, 0, 0, 0, 0) else none))))) else (if pc < 33 then (if pc < 27 then (if pc < 25 then (if pc = 24 then some (.iload_n 3, 1, 0, 0, 0, 0) else none) else (if pc < 26 then (if pc = 25 then some (.iadd, 1, 0, 0, 0, 0) else none) else (if pc = 26 then some (.iload_n 2, 1, 0, 0, 0, 0) else none))) else (if pc < 29 then (if pc < 28 then (if pc = 27 then some (.iastore, 1, 0, 0, 0, 0) else none) else (if pc = 28 then some (.aload_n 0, 1, 0, 0, 0, 0) else none)) else (if pc < 32 then (if pc = 29 then some (.getfield 15, 3, 9, 1, 80, 0) else none) else (if pc = 32 then some (.iload_n 1, 1, 0, 0, 0, 0) else none)))) else (if pc < 37 then (if pc < 35 then (if pc < 34 then (if pc = 33 then some (.iload_n 3, 1, 0, 0, 0, 0) else none) else (if pc = 34 then some (.iconst 1, 1, 0, 0, 0, 0) else none)) else (if pc < 36 then (if pc = 35 then some (.iadd, 1, 0, 0, 0, 0) else none) else (if pc = 36 then some (.iastore, 1, 0, 0, 0, 0) else none))) else (if pc < 39 then (if pc < 38 then (if pc = 37 then some (.iload_n 3, 1, 0, 0, 0, 0) else none) else (if pc = 38 then some (.iconst 1, 1, 0, 0, 0, 0) else none)) else (if pc < 40 then (if pc = 39 then some (.iadd, 1, 0, 0, 0, 0) else none) else (if pc = 40 then some (.ireturn, 1, 0, 0, 0, 0) else none)))))
def f_X6_takeFirst (pc : Nat) : Option En := if pc < 37 then (if pc < 18 then (if pc < 8 then (if pc < 5 then (if pc < 1 then (if pc = 0 then some (.aload_n 0, 1, 0, 0, 0, 0) else none) else (if pc < 4 then (if pc = 1 then some (.getfield 15, 3, 9, 1, 80, 0) else none) else (if pc = 4 then some (.iload_n 1, 1, 0, 0, 0, 0) else none))) else (if pc < 6 then (if pc = 5 then some (.iaload, 1, 0, 0, 0, 0) else none) else (if pc < 7 then (if pc = 6 then some (.istore_n 2, 1, 0, 0, 0, 0) else none) else (if pc = 7 then some (.iload_n 2, 1, 0, 0, 0, 0) else none)))) else (if pc < 14 then (if pc < 11 then (if pc = 8 then some (.ifCond .gt 6, 3, 14, 0, 0, 0) else none) else (if pc < 13 then (if pc = 11 then some (.bipush (-5), 2, 0, 0, 0, 0) else none) else (if pc = 13 then some (.ireturn, 1, 0, 0, 0, 0) else none))) else (if pc < 15 then (if pc = 14 then some (.iload_n 1, 1, 0, 0, 0, 0) else none) else (if pc < 17 then (if pc = 15 then some (.bipush 8, 2, 0, 0, 0, 0) else none) else (if pc = 17 then some (.imul, 1, 0, 0, 0, 0) else none))))) else (if pc < 27 then (if pc < 23 then (if pc < 19 then (if pc = 18 then some (.istore_n 3, 1, 0, 0, 0, 0) else none) else (if pc < 20 then (if pc = 19 then some (.aload_n 0, 1, 0, 0, 0, 0) else none) else (if pc = 20 then some (.getfield 9, 3, 9, 0, 79, 0) else none))) else (if pc < 24 then (if pc = 23 then some (.iload_n 3, 1, 0, 0, 0, 0) else none) else (if pc < 25 then (if pc = 24 then some (.iaload, 1, 0, 0, 0, 0) else none) else (if pc = 25 then some (.istore 4, 2, 0, 0, 0, 0) else none)))) else (if pc < 32 then (if pc < 28 then (if pc = 27 then some (.iconst 1, 1, 0, 0, 0, 0) else none) else (if pc < 30 then (if pc = 28 then some (.istore 5, 2, 0, 0, 0, 0) else none) else (if pc = 30 then some (.iload 5, 2, 0, 0, 0, 0) else none))) else (if pc < 33 then (if pc = 32 then some (.iload_n 2, 1, 0, 0, 0, 0) else none) else (if pc < 36 then (if pc = 33 then some (.if_icmp .ge 29, 3, 62, 0, 0, 0) else none) else (if pc = 36 then some (.aload_n 0, 1, 0, 0, 0, 0) else none)))))) else (if pc < 55 then (if pc < 46 then (if pc < 43 then (if pc < 40 then (if pc = 37 then some (.getfield 9, 3, 9, 0, 79, 0) else none) else (if pc < 41 then (if pc = 40 then some (.iload_n 3, 1, 0, 0, 0, 0) else none) else (if pc = 41 then some (.iload 5, 2, 0, 0, 0, 0) else none))) else (if pc < 44 then (if pc = 43 then some (.iadd, 1, 0, 0, 0, 0) else none) else (if pc < 45 then (if pc = 44 then some (.iconst 1, 1, 0, 0, 0, 0) else none) else (if pc = 45 then some (.isub, 1, 0, 0, 0, 0) else none)))) else (if pc < 51 then (if pc < 47 then (if pc = 46 then some (.aload_n 0, 1, 0, 0, 0, 0) else none) else (if pc < 50 then (if pc = 47 then some (.getfield 9, 3, 9, 0, 79, 0) else none) else (if pc = 50 then some (.iload_n 3, 1, 0, 0, 0, 0) else none))) else (if pc < 53 then (if pc = 51 then some (.iload 5, 2, 0, 0, 0, 0) else none) else (if pc < 54 then (if pc = 53 then some (.iadd, 1, 0, 0, 0, 0) else none) else (if pc = 54 then some (.iaload, 1, 0, 0, 0, 0) else none))))) else (if pc < 67 then (if pc < 62 then (if pc < 56 then (if pc = 55 then some (.iastore, 1, 0, 0, 0, 0) else none) else (if pc < 59 then (if pc = 56 then some (.iinc 5 1, 3, 0, 0, 0, 0) else none) else (if pc = 59 then some (.goto (-29), 3, 30, 0, 0, 0) else none))) else (if pc < 63 then (if pc = 62 then some (.aload_n 0, 1, 0, 0, 0, 0) else none) else (if pc < 66 then (if pc = 63 then some (.getfield 15, 3, 9, 1, 80, 0) else none) else (if pc = 66 then some (.iload_n 1, 1, 0, 0, 0, 0) else none)))) else (if pc < 70 then (if pc < 68 then (if pc = 67 then some (.iload_n 2, 1, 0, 0, 0, 0) else none) else (if pc < 69 then (if pc = 68 then some (.iconst 1, 1, 0, 0, 0, 0) else none) else (if pc = 69 then some (.isub, 1, 0, 0, 0, 0) else none))) else (if pc < 71 then (if pc = 70 then some (.iastore, 1, 0, 0, 0, 0) else none) else (if pc < 73 then (if pc = 71 then some (.iload 4, 2, 0, 0, 0, 0) else none) else (if pc = 73 then some (.ireturn, 1, 0, 0, 0, 0) else none))))))
def f_X6_removeAll (pc : Nat) : Option En := if pc < 50 then (if pc < 21 then (if pc < 9 then (if pc < 3 then (if pc < 1 then (if pc = 0 then some (.iconst 0, 1, 0, 0, 0, 0) else none) else (if pc < 2 then (if pc = 1 then some (.istore_n 2, 1, 0, 0, 0, 0) else none) else (if pc = 2 then some (.iconst 0, 1, 0, 0, 0, 0) else none))) else (if pc < 5 then (if pc < 4 then (if pc = 3 then some (.istore_n 3, 1, 0, 0, 0, 0) else none) else (if pc = 4 then some (.iload_n 3, 1, 0, 0, 0, 0) else none)) else (if pc < 6 then (if pc = 5 then some (.iconst 3, 1, 0, 0, 0, 0) else none) else (if pc = 6 then some (.if_icmp .ge 95, 3, 101, 0, 0, 0) else none)))) else (if pc < 15 then (if pc < 12 then (if pc < 10 then (if pc = 9 then some (.iload_n 3, 1, 0, 0, 0, 0) else none) else (if pc = 10 then some (.bipush 8, 2, 0, 0, 0, 0) else none)) else (if pc < 13 then (if pc = 12 then some (.imul, 1, 0, 0, 0, 0) else none) else (if pc = 13 then some (.istore 4, 2, 0, 0, 0, 0) else none))) else (if pc < 18 then (if pc < 16 then (if pc = 15 then some (.iconst 0, 1, 0, 0, 0, 0) else none) else (if pc = 16 then some (.istore 5, 2, 0, 0, 0, 0) else none)) else (if pc < 19 then (if pc = 18 then some (.iconst 0, 1, 0, 0, 0, 0) else none) else (if pc = 19 then some (.istore 6, 2, 0, 0, 0, 0) else none))))) else (if pc < 36 then (if pc < 28 then (if pc < 24 then (if pc < 23 then (if pc = 21 then some (.iload 6, 2, 0, 0, 0, 0) else none) else (if pc = 23 then some (.aload_n 0, 1, 0, 0, 0, 0) else none)) else (if pc < 27 then (if pc = 24 then some (.getfield 15, 3, 9, 1, 80, 0) else none) else (if pc = 27 then some (.iload_n 3, 1, 0, 0, 0, 0) else none))) else (if pc < 32 then (if pc < 29 then (if pc = 28 then some (.iaload, 1, 0, 0, 0, 0) else none) else (if pc = 29 then some (.if_icmp .ge 46, 3, 75, 0, 0, 0) else none)) else (if pc < 33 then (if pc = 32 then some (.aload_n 0, 1, 0, 0, 0, 0) else none) else (if pc = 33 then some (.getfield 9, 3, 9, 0, 79, 0) else none)))) else (if pc < 42 then (if pc < 40 then (if pc < 38 then (if pc = 36 then some (.iload 4, 2, 0, 0, 0, 0) else none) else (if pc = 38 then some (.iload 6, 2, 0, 0, 0, 0) else none)) else (if pc < 41 then (if pc = 40 then some (.iadd, 1, 0, 0, 0, 0) else none) else (if pc = 41 then some (.iaload, 1, 0, 0, 0, 0) else none))) else (if pc < 46 then (if pc < 43 then (if pc = 42 then some (.iload_n 1, 1, 0, 0, 0, 0) else none) else (if pc = 43 then some (.if_icmp .eq 26, 3, 69, 0, 0, 0) else none)) else (if pc < 47 then (if pc = 46 then some (.aload_n 0, 1, 0, 0, 0, 0) else none) else (if pc = 47 then some (.getfield 9, 3, 9, 0, 79, 0) else none)))))) else (if pc < 77 then (if pc < 63 then (if pc < 55 then (if pc < 52 then (if pc = 50 then some (.iload 4, 2, 0, 0, 0, 0) else none) else (if pc < 54 then (if pc = 52 then some (.iload 5, 2, 0, 0, 0, 0) else none) else (if pc = 54 then some (.iadd, 1, 0, 0, 0, 0) else none))) else (if pc < 59 then (if pc < 56 then (if pc = 55 then some (.aload_n 0, 1, 0, 0, 0, 0) else none) else (if pc = 56 then some (.getfield 9, 3, 9, 0, 79, 0) else none)) else (if pc < 61 then (if pc = 59 then some (.iload 4, 2, 0, 0, 0, 0) else none) else (if pc = 61 then some (.iload 6, 2, 0, 0, 0, 0) else none)))) else (if pc < 69 then (if pc < 65 then (if pc < 64 then (if pc = 63 then some (.iadd, 1, 0, 0, 0, 0) else none) else (if pc = 64 then some (.iaload, 1, 0, 0, 0, 0) else none)) else (if pc < 66 then (if pc = 65 then some (.iastore, 1, 0, 0, 0, 0) else none) else (if pc = 66 then some (.iinc 5 1, 3, 0, 0, 0, 0) else none))) else (if pc < 75 then (if pc < 72 then (if pc = 69 then some (.iinc 6 1, 3, 0, 0, 0, 0) else none) else (if pc = 72 then some (.goto (-51), 3, 21, 0, 0, 0) else none)) else (if pc < 76 then (if pc = 75 then some (.iload_n 2, 1, 0, 0, 0, 0) else none) else (if pc = 76 then some (.aload_n 0, 1, 0, 0, 0, 0) else none))))) else (if pc < 88 then (if pc < 84 then (if pc < 81 then (if pc < 80 then (if pc = 77 then some (.getfield 15, 3, 9, 1, 80, 0) else none) else (if pc = 80 then some (.iload_n 3, 1, 0, 0, 0, 0) else none)) else (if pc < 82 then (if pc = 81 then some (.iaload, 1, 0, 0, 0, 0) else none) else (if pc = 82 then some (.iload 5, 2, 0, 0, 0, 0) else none))) else (if pc < 86 then (if pc < 85 then (if pc = 84 then some (.isub, 1, 0, 0, 0, 0) else none) else (if pc = 85 then some (.iadd, 1, 0, 0, 0, 0) else none)) else (if pc < 87 then (if pc = 86 then some (.istore_n 2, 1, 0, 0, 0, 0) else none) else (if pc = 87 then some (.aload_n 0, 1, 0, 0, 0, 0) else none)))) else (if pc < 95 then (if pc < 92 then (if pc < 91 then (if pc = 88 then some (.getfield 15, 3, 9, 1, 80, 0) else none) else (if pc = 91 then some (.iload_n 3, 1, 0, 0, 0, 0) else none)) else (if pc < 94 then (if pc = 92 then some (.iload 5, 2, 0, 0, 0, 0) else none) else (if pc = 94 then some (.iastore, 1, 0, 0, 0, 0) else none))) else (if pc < 101 then (if pc < 98 then (if pc = 95 then some (.iinc 3 1, 3, 0, 0, 0, 0) else none) else (if pc = 98 then some (.goto (-94), 3, 4, 0, 0, 0) else none)) else (if pc < 102 then (if pc = 101 then some (.iload_n 2, 1, 0, 0, 0, 0) else none) else (if pc = 102 then some (.ireturn, 1, 0, 0, 0, 0) else none))))))
def f_X6_customersWith (pc : Nat) : Option En := if pc < 24 then (if pc < 10 then (if pc < 4 then (if pc < 2 then (if pc < 1 then (if pc = 0 then some (.iconst 0, 1, 0, 0, 0, 0) else none) else (if pc = 1 then some (.istore_n 2, 1, 0, 0, 0, 0) else none)) else (if pc < 3 then (if pc = 2 then some (.iconst 0, 1, 0, 0, 0, 0) else none) else (if pc = 3 then some (.istore_n 3, 1, 0, 0, 0, 0) else none))) else (if pc < 6 then (if pc < 5 then (if pc = 4 then some (.iload_n 3, 1, 0, 0, 0, 0) else none) else (if pc = 5 then some (.iconst 3, 1, 0, 0, 0, 0) else none)) else (if pc < 9 then (if pc = 6 then some (.if_icmp .ge 48, 3, 54, 0, 0, 0) else none) else (if pc = 9 then some (.iconst 0, 1, 0, 0, 0, 0) else none)))) else (if pc < 18 then (if pc < 14 then (if pc < 12 then (if pc = 10 then some (.istore 4, 2, 0, 0, 0, 0) else none) else (if pc = 12 then some (.iload 4, 2, 0, 0, 0, 0) else none)) else (if pc < 15 then (if pc = 14 then some (.aload_n 0, 1, 0, 0, 0, 0) else none) else (if pc = 15 then some (.getfield 15, 3, 9, 1, 80, 0) else none))) else (if pc < 20 then (if pc < 19 then (if pc = 18 then some (.iload_n 3, 1, 0, 0, 0, 0) else none) else (if pc = 19 then some (.iaload, 1, 0, 0, 0, 0) else none)) else (if pc < 23 then (if pc = 20 then some (.if_icmp .ge 28, 3, 48, 0, 0, 0) else none) else (if pc = 23 then some (.aload_n 0, 1, 0, 0, 0, 0) else none))))) else (if pc < 36 then (if pc < 31 then (if pc < 28 then (if pc < 27 then (if pc = 24 then some (.getfield 9, 3, 9, 0, 79, 0) else none) else (if pc = 27 then some (.iload_n 3, 1, 0, 0, 0, 0) else none)) else (if pc < 30 then (if pc = 28 then some (.bipush 8, 2, 0, 0, 0, 0) else none) else (if pc = 30 then some (.imul, 1, 0, 0, 0, 0) else none))) else (if pc < 34 then (if pc < 33 then (if pc = 31 then some (.iload 4, 2, 0, 0, 0, 0) else none) else (if pc = 33 then some (.iadd, 1, 0, 0, 0, 0) else none)) else (if pc < 35 then (if pc = 34 then some (.iaload, 1, 0, 0, 0, 0) else none) else (if pc = 35 then some (.iload_n 1, 1, 0, 0, 0, 0) else none)))) else (if pc < 48 then (if pc < 42 then (if pc < 39 then (if pc = 36 then some (.if_icmp .ne 6, 3, 42, 0, 0, 0) else none) else (if pc = 39 then some (.iinc 2 1, 3, 0, 0, 0, 0) else none)) else (if pc < 45 then (if pc = 42 then some (.iinc 4 1, 3, 0, 0, 0, 0) else none) else (if pc = 45 then some (.goto (-33), 3, 12, 0, 0, 0) else none))) else (if pc < 54 then (if pc < 51 then (if pc = 48 then some (.iinc 3 1, 3, 0, 0, 0, 0) else none) else (if pc = 51 then some (.goto (-47), 3, 4, 0, 0, 0) else none)) else (if pc < 55 then (if pc = 54 then some (.iload_n 2, 1, 0, 0, 0, 0) else none) else (if pc = 55 then some (.ireturn, 1, 0, 0, 0, 0) else none)))))
def f_X6_isWaiting (pc : Nat) : Option En := if pc < 8 then (if pc < 4 then (if pc < 1 then (if pc = 0 then some (.aload_n 0, 1, 0, 0, 0, 0) else none) else (if pc = 1 then some (.getfield 18, 3, 9, 2, 81, 0) else none)) else (if pc < 5 then (if pc = 4 then some (.iload_n 1, 1, 0, 0, 0, 0) else none) else (if pc < 6 then (if pc = 5 then some (.iaload, 1, 0, 0, 0, 0) else none) else (if pc = 6 then some (.bipush (-5), 2, 0, 0, 0, 0) else none)))) else (if pc < 12 then (if pc < 11 then (if pc = 8 then some (.if_icmp .eq 7, 3, 15, 0, 0, 0) else none) else (if pc = 11 then some (.iconst 1, 1, 0, 0, 0, 0) else none)) else (if pc < 15 then (if pc = 12 then some (.goto 4, 3, 16, 0, 0, 0) else none) else (if pc < 16 then (if pc = 15 then some (.iconst 0, 1, 0, 0, 0, 0) else none) else (if pc = 16 then some (.ireturn, 1, 0, 0, 0, 0) else none))))
def f_X6_waitsTooLong (pc : Nat) : Option En := if pc < 15 then (if pc < 6 then (if pc < 4 then (if pc < 1 then (if pc = 0 then some (.aload_n 0, 1, 0, 0, 0, 0) else none) else (if pc = 1 then some (.getfield 18, 3, 9, 2, 81, 0) else none)) else (if pc < 5 then (if pc = 4 then some (.iload_n 1, 1, 0, 0, 0, 0) else none) else (if pc = 5 then some (.iaload, 1, 0, 0, 0, 0) else none))) else (if pc < 11 then (if pc < 8 then (if pc = 6 then some (.bipush (-5), 2, 0, 0, 0, 0) else none) else (if pc = 8 then some (.if_icmp .eq 17, 3, 25, 0, 0, 0) else none)) else (if pc < 12 then (if pc = 11 then some (.aload_n 0, 1, 0, 0, 0, 0) else none) else (if pc = 12 then some (.getfield 21, 3, 9, 3, 83, 0) else none)))) else (if pc < 21 then (if pc < 17 then (if pc < 16 then (if pc = 15 then some (.iload_n 1, 1, 0, 0, 0, 0) else none) else (if pc = 16 then some (.iaload, 1, 0, 0, 0, 0) else none)) else (if pc < 18 then (if pc = 17 then some (.iload_n 2, 1, 0, 0, 0, 0) else none) else (if pc = 18 then some (.if_icmp .lt 7, 3, 25, 0, 0, 0) else none))) else (if pc < 25 then (if pc < 22 then (if pc = 21 then some (.iconst 1, 1, 0, 0, 0, 0) else none) else (if pc = 22 then some (.goto 4, 3, 26, 0, 0, 0) else none)) else (if pc < 26 then (if pc = 25 then some (.iconst 0, 1, 0, 0, 0, 0) else none) else (if pc = 26 then some (.ireturn, 1, 0, 0, 0, 0) else none))))
def f_X6_startWaiting (pc : Nat) : Option En := if pc < 7 then (if pc < 4 then (if pc < 1 then (if pc = 0 then some (.aload_n 0, 1, 0, 0, 0, 0) else none) else (if pc = 1 then some (.getfield 18, 3, 9, 2, 81, 0) else none)) else (if pc < 5 then (if pc = 4 then some (.iload_n 1, 1, 0, 0, 0, 0) else none) else (if pc < 6 then (if pc = 5 then some (.iload_n 2, 1, 0, 0, 0, 0) else none) else (if pc = 6 then some (.iastore, 1, 0, 0, 0, 0) else none)))) else (if pc < 12 then (if pc < 8 then (if pc = 7 then some (.aload_n 0, 1, 0, 0, 0, 0) else none) else (if pc < 11 then (if pc = 8 then some (.getfield 21, 3, 9, 3, 83, 0) else none) else (if pc = 11 then some (.iload_n 1, 1, 0, 0, 0, 0) else none))) else (if pc < 13 then (if pc = 12 then some (.iconst 0, 1, 0, 0, 0, 0) else none) else (if pc < 14 then (if pc = 13 then some (.iastore, 1, 0, 0, 0, 0) else none) else (if pc = 14 then some (.return_, 1, 0, 0, 0, 0) else none))))
def f_X6_countWaiting (pc : Nat) : Option En := if pc < 18 then (if pc < 7 then (if pc < 2 then (if pc < 1 then (if pc = 0 then some (.iconst 0, 1, 0, 0, 0, 0) else none) else (if pc = 1 then some (.istore_n 1, 1, 0, 0, 0, 0) else none)) else (if pc < 3 then (if pc = 2 then some (.iload_n 1, 1, 0, 0, 0, 0) else none) else (if pc < 4 then (if pc = 3 then some (.iconst 3, 1, 0, 0, 0, 0) else none) else (if pc = 4 then some (.if_icmp .ge 30, 3, 34, 0, 0, 0) else none)))) else (if pc < 12 then (if pc < 8 then (if pc = 7 then some (.aload_n 0, 1, 0, 0, 0, 0) else none) else (if pc < 11 then (if pc = 8 then some (.getfield 18, 3, 9, 2, 81, 0) else none) else (if pc = 11 then some (.iload_n 1, 1, 0, 0, 0, 0) else none))) else (if pc < 13 then (if pc = 12 then some (.iaload, 1, 0, 0, 0, 0) else none) else (if pc < 15 then (if pc = 13 then some (.bipush (-5), 2, 0, 0, 0, 0) else none) else (if pc = 15 then some (.if_icmp .eq 13, 3, 28, 0, 0, 0) else none))))) else (if pc < 25 then (if pc < 22 then (if pc < 19 then (if pc = 18 then some (.aload_n 0, 1, 0, 0, 0, 0) else none) else (if pc = 19 then some (.getfield 21, 3, 9, 3, 83, 0) else none)) else (if pc < 23 then (if pc = 22 then some (.iload_n 1, 1, 0, 0, 0, 0) else none) else (if pc < 24 then (if pc = 23 then some (.dup2, 1, 0, 0, 0, 0) else none) else (if pc = 24 then some (.iaload, 1, 0, 0, 0, 0) else none)))) else (if pc < 28 then (if pc < 26 then (if pc = 25 then some (.iconst 1, 1, 0, 0, 0, 0) else none) else (if pc < 27 then (if pc = 26 then some (.iadd, 1, 0, 0, 0, 0) else none) else (if pc = 27 then some (.iastore, 1, 0, 0, 0, 0) else none))) else (if pc < 31 then (if pc = 28 then some (.iinc 1 1, 3, 0, 0, 0, 0) else none) else (if pc < 34 then (if pc = 31 then some (.goto (-29), 3, 2, 0, 0, 0) else none) else (if pc = 34 then some (.return_, 1, 0, 0, 0, 0) else none)))))
def f_X6_sendAway (pc : Nat) : Option En := if pc < 9 then (if pc < 5 then (if pc < 1 then (if pc = 0 then some (.aload_n 0, 1, 0, 0, 0, 0) else none) else (if pc < 4 then (if pc = 1 then some (.getfield 30, 3, 9, 6, 86, 0) else none) else (if pc = 4 then some (.iload_n 1, 1, 0, 0, 0, 0) else none))) else (if pc < 7 then (if pc < 6 then (if pc = 5 then some (.dup2, 1, 0, 0, 0, 0) else none) else (if pc = 6 then some (.iaload, 1, 0, 0, 0, 0) else none)) else (if pc < 8 then (if pc = 7 then some (.iconst 1, 1, 0, 0, 0, 0) else none) else (if pc = 8 then some (.iadd, 1, 0, 0, 0, 0) else none)))) else (if pc < 14 then (if pc < 10 then (if pc = 9 then some (.iastore, 1, 0, 0, 0, 0) else none) else (if pc < 11 then (if pc = 10 then some (.aload_n 0, 1, 0, 0, 0, 0) else none) else (if pc = 11 then some (.getfield 33, 3, 9, 7, 87, 0) else none))) else (if pc < 16 then (if pc < 15 then (if pc = 14 then some (.iload_n 1, 1, 0, 0, 0, 0) else none) else (if pc = 15 then some (.iload_n 2, 1, 0, 0, 0, 0) else none)) else (if pc < 17 then (if pc = 16 then some (.iastore, 1, 0, 0, 0, 0) else none) else (if pc = 17 then some (.return_, 1, 0, 0, 0, 0) else none))))
def f_X6_addPayment (pc : Nat) : Option En := if pc < 10 then (if pc < 6 then (if pc < 4 then (if pc < 1 then (if pc = 0 then some (.aload_n 0, 1, 0, 0, 0, 0) else none) else (if pc = 1 then some (.getfield 24, 3, 9, 4, 84, 0) else none)) else (if pc < 5 then (if pc = 4 then some (.iload_n 1, 1, 0, 0, 0, 0) else none) else (if pc = 5 then some (.dup2, 1, 0, 0, 0, 0) else none))) else (if pc < 8 then (if pc < 7 then (if pc = 6 then some (.iaload, 1, 0, 0, 0, 0) else none) else (if pc = 7 then some (.iload_n 2, 1, 0, 0, 0, 0) else none)) else (if pc < 9 then (if pc = 8 then some (.iadd, 1, 0, 0, 0, 0) else none) else (if pc = 9 then some (.iastore, 1, 0, 0, 0, 0) else none)))) else (if pc < 16 then (if pc < 14 then (if pc < 11 then (if pc = 10 then some (.aload_n 0, 1, 0, 0, 0, 0) else none) else (if pc = 11 then some (.getfield 27, 3, 9, 5, 85, 0) else none)) else (if pc < 15 then (if pc = 14 then some (.iload_n 1, 1, 0, 0, 0, 0) else none) else (if pc = 15 then some (.dup2, 1, 0, 0, 0, 0) else none))) else (if pc < 18 then (if pc < 17 then (if pc = 16 then some (.iaload, 1, 0, 0, 0, 0) else none) else (if pc = 17 then some (.iconst 1, 1, 0, 0, 0, 0) else none)) else (if pc < 19 then (if pc = 18 then some (.iadd, 1, 0, 0, 0, 0) else none) else (if pc < 20 then (if pc = 19 then some (.iastore, 1, 0, 0, 0, 0) else none) else (if pc = 20 then some (.return_, 1, 0, 0, 0, 0) else none)))))
def f_X6_payments (pc : Nat) : Option En := if pc < 4 then (if pc < 1 then (if pc = 0 then some (.aload_n 0, 1, 0, 0, 0, 0) else none) else (if pc = 1 then some (.getfield 27, 3, 9, 5, 85, 0) else none)) else (if pc < 7 then (if pc = 4 then some (.invokestatic 42, 3, 67, 1, 330, 0) else none) else (if pc = 7 then some (.ireturn, 1, 0, 0, 0, 0) else none))
def f_X6_allCoins (pc : Nat) : Option En := if pc < 4 then (if pc < 1 then (if pc = 0 then some (.aload_n 0, 1, 0, 0, 0, 0) else none) else (if pc = 1 then some (.getfield 24, 3, 9, 4, 84, 0) else none)) else (if pc < 7 then (if pc = 4 then some (.invokestatic 42, 3, 67, 1, 330, 0) else none) else (if pc = 7 then some (.ireturn, 1, 0, 0, 0, 0) else none))
def f_X6_allSentAway (pc : Nat) : Option En := if pc < 4 then (if pc < 1 then (if pc = 0 then some (.aload_n 0, 1, 0, 0, 0, 0) else none) else (if pc = 1 then some (.getfield 30, 3, 9, 6, 86, 0) else none)) else (if pc < 7 then (if pc = 4 then some (.invokestatic 42, 3, 67, 1, 330, 0) else none) else (if pc = 7 then some (.ireturn, 1, 0, 0, 0, 0) else none))
def f_X6_allCustomers (pc : Nat) : Option En := if pc < 4 then (if pc < 1 then (if pc = 0 then some (.aload_n 0, 1, 0, 0, 0, 0) else none) else (if pc = 1 then some (.getfield 15, 3, 9, 1, 80, 0) else none)) else (if pc < 7 then (if pc = 4 then some (.invokestatic 42, 3, 67, 1, 330, 0) else none) else (if pc = 7 then some (.ireturn, 1, 0, 0, 0, 0) else none))
def f_X6_sum (pc : Nat) : Option En := if pc < 10 then (if pc < 4 then (if pc < 2 then (if pc < 1 then (if pc = 0 then some (.iconst 0, 1, 0, 0, 0, 0) else none) else (if pc = 1 then some (.istore_n 1, 1, 0, 0, 0, 0) else none)) else (if pc < 3 then (if pc = 2 then some (.iconst 0, 1, 0, 0, 0, 0) else none) else (if pc = 3 then some (.istore_n 2, 1, 0, 0, 0, 0) else none))) else (if pc < 6 then (if pc < 5 then (if pc = 4 then some (.iload_n 2, 1, 0, 0, 0, 0) else none) else (if pc = 5 then some (.iconst 3, 1, 0, 0, 0, 0) else none)) else (if pc < 9 then (if pc = 6 then some (.if_icmp .ge 15, 3, 21, 0, 0, 0) else none) else (if pc = 9 then some (.iload_n 1, 1, 0, 0, 0, 0) else none)))) else (if pc < 14 then (if pc < 12 then (if pc < 11 then (if pc = 10 then some (.aload_n 0, 1, 0, 0, 0, 0) else none) else (if pc = 11 then some (.iload_n 2, 1, 0, 0, 0, 0) else none)) else (if pc < 13 then (if pc = 12 then some (.iaload, 1, 0, 0, 0, 0) else none) else (if pc = 13 then some (.iadd, 1, 0, 0, 0, 0) else none))) else (if pc < 18 then (if pc < 15 then (if pc = 14 then some (.istore_n 1, 1, 0, 0, 0, 0) else none) else (if pc = 15 then some (.iinc 2 1, 3, 0, 0, 0, 0) else none)) else (if pc < 21 then (if pc = 18 then some (.goto (-14), 3, 4, 0, 0, 0) else none) else (if pc < 22 then (if pc = 21 then some (.iload_n 1, 1, 0, 0, 0, 0) else none) else (if pc = 22 then some (.ireturn, 1, 0, 0, 0, 0) else none)))))
def f_X6_shortestRow (pc : Nat) : Option En := if pc < 39 then (if pc < 16 then (if pc < 6 then (if pc < 3 then (if pc < 1 then (if pc = 0 then some (.iconst 0, 1, 0, 0, 0, 0) else none) else (if pc < 2 then (if pc = 1 then some (.istore_n 1, 1, 0, 0, 0, 0) else none) else (if pc = 2 then some (.iconst 1, 1, 0, 0, 0, 0) else none))) else (if pc < 4 then (if pc = 3 then some (.istore_n 2, 1, 0, 0, 0, 0) else none) else (if pc < 5 then (if pc = 4 then some (.iload_n 2, 1, 0, 0, 0, 0) else none) else (if pc = 5 then some (.iconst 3, 1, 0, 0, 0, 0) else none)))) else (if pc < 13 then (if pc < 9 then (if pc = 6 then some (.if_icmp .ge 79, 3, 85, 0, 0, 0) else none) else (if pc < 10 then (if pc = 9 then some (.aload_n 0, 1, 0, 0, 0, 0) else none) else (if pc = 10 then some (.getfield 15, 3, 9, 1, 80, 0) else none))) else (if pc < 14 then (if pc = 13 then some (.iload_n 2, 1, 0, 0, 0, 0) else none) else (if pc < 15 then (if pc = 14 then some (.iaload, 1, 0, 0, 0, 0) else none) else (if pc = 15 then some (.aload_n 0, 1, 0, 0, 0, 0) else none))))) else (if pc < 28 then (if pc < 21 then (if pc < 19 then (if pc = 16 then some (.getfield 15, 3, 9, 1, 80, 0) else none) else (if pc < 20 then (if pc = 19 then some (.iload_n 1, 1, 0, 0, 0, 0) else none) else (if pc = 20 then some (.iaload, 1, 0, 0, 0, 0) else none))) else (if pc < 24 then (if pc = 21 then some (.if_icmp .ge 7, 3, 28, 0, 0, 0) else none) else (if pc < 25 then (if pc = 24 then some (.iconst 1, 1, 0, 0, 0, 0) else none) else (if pc = 25 then some (.goto 4, 3, 29, 0, 0, 0) else none)))) else (if pc < 31 then (if pc < 29 then (if pc = 28 then some (.iconst 0, 1, 0, 0, 0, 0) else none) else (if pc < 30 then (if pc = 29 then some (.istore_n 3, 1, 0, 0, 0, 0) else none) else (if pc = 30 then some (.aload_n 0, 1, 0, 0, 0, 0) else none))) else (if pc < 35 then (if pc < 32 then (if pc = 31 then some (.iload_n 1, 1, 0, 0, 0, 0) else none) else (if pc = 32 then some (.invokevirtual 46, 3, 57, 1, 561, 0) else none)) else (if pc < 38 then (if pc = 35 then some (.ifCond .eq 15, 3, 50, 0, 0, 0) else none) else (if pc = 38 then some (.aload_n 0, 1, 0, 0, 0, 0) else none)))))) else (if pc < 63 then (if pc < 51 then (if pc < 46 then (if pc < 40 then (if pc = 39 then some (.iload_n 2, 1, 0, 0, 0, 0) else none) else (if pc < 43 then (if pc = 40 then some (.invokevirtual 46, 3, 57, 1, 561, 0) else none) else (if pc = 43 then some (.ifCond .ne 7, 3, 50, 0, 0, 0) else none))) else (if pc < 47 then (if pc = 46 then some (.iconst 1, 1, 0, 0, 0, 0) else none) else (if pc < 50 then (if pc = 47 then some (.goto 4, 3, 51, 0, 0, 0) else none) else (if pc = 50 then some (.iconst 0, 1, 0, 0, 0, 0) else none)))) else (if pc < 57 then (if pc < 53 then (if pc = 51 then some (.istore 4, 2, 0, 0, 0, 0) else none) else (if pc < 54 then (if pc = 53 then some (.iload_n 3, 1, 0, 0, 0, 0) else none) else (if pc = 54 then some (.ifCond .ne 23, 3, 77, 0, 0, 0) else none))) else (if pc < 61 then (if pc < 58 then (if pc = 57 then some (.aload_n 0, 1, 0, 0, 0, 0) else none) else (if pc = 58 then some (.getfield 15, 3, 9, 1, 80, 0) else none)) else (if pc < 62 then (if pc = 61 then some (.iload_n 2, 1, 0, 0, 0, 0) else none) else (if pc = 62 then some (.iaload, 1, 0, 0, 0, 0) else none))))) else (if pc < 74 then (if pc < 68 then (if pc < 64 then (if pc = 63 then some (.aload_n 0, 1, 0, 0, 0, 0) else none) else (if pc < 67 then (if pc = 64 then some (.getfield 15, 3, 9, 1, 80, 0) else none) else (if pc = 67 then some (.iload_n 1, 1, 0, 0, 0, 0) else none))) else (if pc < 69 then (if pc = 68 then some (.iaload, 1, 0, 0, 0, 0) else none) else (if pc < 72 then (if pc = 69 then some (.if_icmp .ne 10, 3, 79, 0, 0, 0) else none) else (if pc = 72 then some (.iload 4, 2, 0, 0, 0, 0) else none)))) else (if pc < 79 then (if pc < 77 then (if pc = 74 then some (.ifCond .eq 5, 3, 79, 0, 0, 0) else none) else (if pc < 78 then (if pc = 77 then some (.iload_n 2, 1, 0, 0, 0, 0) else none) else (if pc = 78 then some (.istore_n 1, 1, 0, 0, 0, 0) else none))) else (if pc < 85 then (if pc < 82 then (if pc = 79 then some (.iinc 2 1, 3, 0, 0, 0, 0) else none) else (if pc = 82 then some (.goto (-78), 3, 4, 0, 0, 0) else none)) else (if pc < 86 then (if pc = 85 then some (.iload_n 1, 1, 0, 0, 0, 0) else none) else (if pc = 86 then some (.ireturn, 1, 0, 0, 0, 0) else none))))))
def f_X6_tell (pc : Nat) : Option En := if pc < 107 then (if pc < 79 then (if pc < 64 then (if pc < 60 then (if pc < 56 then (if pc < 1 then (if pc = 0 then some (.iload_n 2, 1, 0, 0, 0, 0) else none) else (if pc = 1 then some (.tableswitch 154 0 9 #[55, 62, 86, 100, 107, 154, 126, 133, 140, 147], 55, 0, 0, 0, 0) else none)) else (if pc < 57 then (if pc = 56 then some (.aload_n 0, 1, 0, 0, 0, 0) else none) else (if pc = 57 then some (.getfield 15, 3, 9, 1, 80, 0) else none))) else (if pc < 62 then (if pc < 61 then (if pc = 60 then some (.iload_n 1, 1, 0, 0, 0, 0) else none) else (if pc = 61 then some (.iaload, 1, 0, 0, 0, 0) else none)) else (if pc < 63 then (if pc = 62 then some (.ireturn, 1, 0, 0, 0, 0) else none) else (if pc = 63 then some (.aload_n 0, 1, 0, 0, 0, 0) else none)))) else (if pc < 72 then (if pc < 68 then (if pc < 67 then (if pc = 64 then some (.getfield 15, 3, 9, 1, 80, 0) else none) else (if pc = 67 then some (.iload_n 1, 1, 0, 0, 0, 0) else none)) else (if pc < 69 then (if pc = 68 then some (.iaload, 1, 0, 0, 0, 0) else none) else (if pc = 69 then some (.ifCond .le 15, 3, 84, 0, 0, 0) else none))) else (if pc < 76 then (if pc < 73 then (if pc = 72 then some (.aload_n 0, 1, 0, 0, 0, 0) else none) else (if pc = 73 then some (.getfield 9, 3, 9, 0, 79, 0) else none)) else (if pc < 77 then (if pc = 76 then some (.iload_n 1, 1, 0, 0, 0, 0) else none) else (if pc = 77 then some (.bipush 8, 2, 0, 0, 0, 0) else none))))) else (if pc < 92 then (if pc < 86 then (if pc < 81 then (if pc < 80 then (if pc = 79 then some (.imul, 1, 0, 0, 0, 0) else none) else (if pc = 80 then some (.iaload, 1, 0, 0, 0, 0) else none)) else (if pc < 84 then (if pc = 81 then some (.goto 5, 3, 86, 0, 0, 0) else none) else (if pc = 84 then some (.bipush (-5), 2, 0, 0, 0, 0) else none))) else (if pc < 88 then (if pc < 87 then (if pc = 86 then some (.ireturn, 1, 0, 0, 0, 0) else none) else (if pc = 87 then some (.aload_n 0, 1, 0, 0, 0, 0) else none)) else (if pc < 89 then (if pc = 88 then some (.iload_n 1, 1, 0, 0, 0, 0) else none) else (if pc = 89 then some (.invokevirtual 46, 3, 57, 1, 561, 0) else none)))) else (if pc < 100 then (if pc < 96 then (if pc < 95 then (if pc = 92 then some (.ifCond .eq 7, 3, 99, 0, 0, 0) else none) else (if pc = 95 then some (.iconst 1, 1, 0, 0, 0, 0) else none)) else (if pc < 99 then (if pc = 96 then some (.goto 4, 3, 100, 0, 0, 0) else none) else (if pc = 99 then some (.iconst 0, 1, 0, 0, 0, 0) else none))) else (if pc < 102 then (if pc < 101 then (if pc = 100 then some (.ireturn, 1, 0, 0, 0, 0) else none) else (if pc = 101 then some (.aload_n 0, 1, 0, 0, 0, 0) else none)) else (if pc < 105 then (if pc = 102 then some (.getfield 18, 3, 9, 2, 81, 0) else none) else (if pc < 106 then (if pc = 105 then some (.iload_n 1, 1, 0, 0, 0, 0) else none) else (if pc = 106 then some (.iaload, 1, 0, 0, 0, 0) else none))))))) else (if pc < 134 then (if pc < 121 then (if pc < 113 then (if pc < 109 then (if pc < 108 then (if pc = 107 then some (.ireturn, 1, 0, 0, 0, 0) else none) else (if pc = 108 then some (.aload_n 0, 1, 0, 0, 0, 0) else none)) else (if pc < 110 then (if pc = 109 then some (.iload_n 1, 1, 0, 0, 0, 0) else none) else (if pc = 110 then some (.invokevirtual 46, 3, 57, 1, 561, 0) else none))) else (if pc < 117 then (if pc < 116 then (if pc = 113 then some (.ifCond .eq 12, 3, 125, 0, 0, 0) else none) else (if pc = 116 then some (.aload_n 0, 1, 0, 0, 0, 0) else none)) else (if pc < 120 then (if pc = 117 then some (.getfield 21, 3, 9, 3, 83, 0) else none) else (if pc = 120 then some (.iload_n 1, 1, 0, 0, 0, 0) else none)))) else (if pc < 127 then (if pc < 125 then (if pc < 122 then (if pc = 121 then some (.iaload, 1, 0, 0, 0, 0) else none) else (if pc = 122 then some (.goto 4, 3, 126, 0, 0, 0) else none)) else (if pc < 126 then (if pc = 125 then some (.iconst 0, 1, 0, 0, 0, 0) else none) else (if pc = 126 then some (.ireturn, 1, 0, 0, 0, 0) else none))) else (if pc < 131 then (if pc < 128 then (if pc = 127 then some (.aload_n 0, 1, 0, 0, 0, 0) else none) else (if pc = 128 then some (.getfield 24, 3, 9, 4, 84, 0) else none)) else (if pc < 132 then (if pc = 131 then some (.iload_n 1, 1, 0, 0, 0, 0) else none) else (if pc < 133 then (if pc = 132 then some (.iaload, 1, 0, 0, 0, 0) else none) else (if pc = 133 then some (.ireturn, 1, 0, 0, 0, 0) else none)))))) else (if pc < 146 then (if pc < 140 then (if pc < 138 then (if pc < 135 then (if pc = 134 then some (.aload_n 0, 1, 0, 0, 0, 0) else none) else (if pc = 135 then some (.getfield 27, 3, 9, 5, 85, 0) else none)) else (if pc < 139 then (if pc = 138 then some (.iload_n 1, 1, 0, 0, 0, 0) else none) else (if pc = 139 then some (.iaload, 1, 0, 0, 0, 0) else none))) else (if pc < 142 then (if pc < 141 then (if pc = 140 then some (.ireturn, 1, 0, 0, 0, 0) else none) else (if pc = 141 then some (.aload_n 0, 1, 0, 0, 0, 0) else none)) else (if pc < 145 then (if pc = 142 then some (.getfield 30, 3, 9, 6, 86, 0) else none) else (if pc = 145 then some (.iload_n 1, 1, 0, 0, 0, 0) else none)))) else (if pc < 152 then (if pc < 148 then (if pc < 147 then (if pc = 146 then some (.iaload, 1, 0, 0, 0, 0) else none) else (if pc = 147 then some (.ireturn, 1, 0, 0, 0, 0) else none)) else (if pc < 149 then (if pc = 148 then some (.aload_n 0, 1, 0, 0, 0, 0) else none) else (if pc = 149 then some (.getfield 33, 3, 9, 7, 87, 0) else none))) else (if pc < 154 then (if pc < 153 then (if pc = 152 then some (.iload_n 1, 1, 0, 0, 0, 0) else none) else (if pc = 153 then some (.iaload, 1, 0, 0, 0, 0) else none)) else (if pc < 155 then (if pc = 154 then some (.ireturn, 1, 0, 0, 0, 0) else none) else (if pc < 157 then (if pc = 155 then some (.bipush (-2), 2, 0, 0, 0, 0) else none) else (if pc = 157 then some (.ireturn, 1, 0, 0, 0, 0) else none)))))))
def f_X7_sell (pc : Nat) : Option En := if pc < 5 then (if pc < 1 then (if pc = 0 then some (.aload_n 0, 1, 0, 0, 0, 0) else none) else (if pc < 2 then (if pc = 1 then some (.aload_n 0, 1, 0, 0, 0, 0) else none) else (if pc = 2 then some (.invokevirtual 33, 3, 86, 0, 233, 0) else none))) else (if pc < 9 then (if pc < 6 then (if pc = 5 then some (.iload_n 1, 1, 0, 0, 0, 0) else none) else (if pc = 6 then some (.invokevirtual 37, 3, 21, 1, 269, 0) else none)) else (if pc < 12 then (if pc = 9 then some (.invokevirtual 41, 3, 87, 1, 292, 0) else none) else (if pc = 12 then some (.ireturn, 1, 0, 0, 0, 0) else none)))
def f_X7_draw (pc : Nat) : Option En := if pc < 5 then (if pc < 1 then (if pc = 0 then some (.aload_n 0, 1, 0, 0, 0, 0) else none) else (if pc < 2 then (if pc = 1 then some (.aload_n 0, 1, 0, 0, 0, 0) else none) else (if pc = 2 then some (.invokevirtual 33, 3, 86, 0, 233, 0) else none))) else (if pc < 9 then (if pc < 6 then (if pc = 5 then some (.iload_n 1, 1, 0, 0, 0, 0) else none) else (if pc = 6 then some (.invokevirtual 44, 3, 22, 1, 621, 0) else none)) else (if pc < 12 then (if pc = 9 then some (.invokevirtual 41, 3, 87, 1, 292, 0) else none) else (if pc = 12 then some (.ireturn, 1, 0, 0, 0, 0) else none)))
def f_X7_come (pc : Nat) : Option En := if pc < 6 then (if pc < 2 then (if pc < 1 then (if pc = 0 then some (.aload_n 0, 1, 0, 0, 0, 0) else none) else (if pc = 1 then some (.aload_n 0, 1, 0, 0, 0, 0) else none)) else (if pc < 5 then (if pc = 2 then some (.invokevirtual 33, 3, 86, 0, 233, 0) else none) else (if pc = 5 then some (.iload_n 1, 1, 0, 0, 0, 0) else none))) else (if pc < 10 then (if pc < 7 then (if pc = 6 then some (.iload_n 2, 1, 0, 0, 0, 0) else none) else (if pc = 7 then some (.invokevirtual 47, 3, 24, 2, 304, 0) else none)) else (if pc < 13 then (if pc = 10 then some (.invokevirtual 41, 3, 87, 1, 292, 0) else none) else (if pc = 13 then some (.ireturn, 1, 0, 0, 0, 0) else none)))
def f_X7_leave (pc : Nat) : Option En := if pc < 5 then (if pc < 1 then (if pc = 0 then some (.aload_n 0, 1, 0, 0, 0, 0) else none) else (if pc < 2 then (if pc = 1 then some (.aload_n 0, 1, 0, 0, 0, 0) else none) else (if pc = 2 then some (.invokevirtual 33, 3, 86, 0, 233, 0) else none))) else (if pc < 9 then (if pc < 6 then (if pc = 5 then some (.iload_n 1, 1, 0, 0, 0, 0) else none) else (if pc = 6 then some (.invokevirtual 51, 3, 25, 1, 638, 0) else none)) else (if pc < 12 then (if pc = 9 then some (.invokevirtual 41, 3, 87, 1, 292, 0) else none) else (if pc = 12 then some (.ireturn, 1, 0, 0, 0, 0) else none)))
def f_X7_pass (pc : Nat) : Option En := if pc < 5 then (if pc < 1 then (if pc = 0 then some (.aload_n 0, 1, 0, 0, 0, 0) else none) else (if pc < 2 then (if pc = 1 then some (.aload_n 0, 1, 0, 0, 0, 0) else none) else (if pc = 2 then some (.invokevirtual 33, 3, 86, 0, 233, 0) else none))) else (if pc < 9 then (if pc < 6 then (if pc = 5 then some (.iload_n 1, 1, 0, 0, 0, 0) else none) else (if pc = 6 then some (.invokevirtual 54, 3, 26, 1, 319, 0) else none)) else (if pc < 12 then (if pc = 9 then some (.invokevirtual 41, 3, 87, 1, 292, 0) else none) else (if pc = 12 then some (.ireturn, 1, 0, 0, 0, 0) else none)))
def f_X7_set (pc : Nat) : Option En := if pc < 6 then (if pc < 2 then (if pc < 1 then (if pc = 0 then some (.aload_n 0, 1, 0, 0, 0, 0) else none) else (if pc = 1 then some (.aload_n 0, 1, 0, 0, 0, 0) else none)) else (if pc < 5 then (if pc = 2 then some (.invokevirtual 33, 3, 86, 0, 233, 0) else none) else (if pc = 5 then some (.iload_n 1, 1, 0, 0, 0, 0) else none))) else (if pc < 10 then (if pc < 7 then (if pc = 6 then some (.iload_n 2, 1, 0, 0, 0, 0) else none) else (if pc = 7 then some (.invokevirtual 57, 3, 27, 2, 650, 0) else none)) else (if pc < 13 then (if pc = 10 then some (.invokevirtual 41, 3, 87, 1, 292, 0) else none) else (if pc = 13 then some (.ireturn, 1, 0, 0, 0, 0) else none)))
def f_X7_undo (pc : Nat) : Option En := if pc < 32 then (if pc < 17 then (if pc < 8 then (if pc < 4 then (if pc < 1 then (if pc = 0 then some (.aload_n 0, 1, 0, 0, 0, 0) else none) else (if pc = 1 then some (.getfield 86, 3, 23, 3, 211, 0) else none)) else (if pc < 7 then (if pc = 4 then some (.ifCond .le 11, 3, 15, 0, 0, 0) else none) else (if pc = 7 then some (.aload_n 0, 1, 0, 0, 0, 0) else none))) else (if pc < 12 then (if pc < 11 then (if pc = 8 then some (.getfield 86, 3, 23, 3, 211, 0) else none) else (if pc = 11 then some (.iconst 4, 1, 0, 0, 0, 0) else none)) else (if pc < 15 then (if pc = 12 then some (.if_icmp .le 6, 3, 18, 0, 0, 0) else none) else (if pc = 15 then some (.bipush (-5), 2, 0, 0, 0, 0) else none)))) else (if pc < 23 then (if pc < 19 then (if pc < 18 then (if pc = 17 then some (.ireturn, 1, 0, 0, 0, 0) else none) else (if pc = 18 then some (.aload_n 0, 1, 0, 0, 0, 0) else none)) else (if pc < 20 then (if pc = 19 then some (.dup, 1, 0, 0, 0, 0) else none) else (if pc = 20 then some (.getfield 86, 3, 23, 3, 211, 0) else none))) else (if pc < 25 then (if pc < 24 then (if pc = 23 then some (.iconst 1, 1, 0, 0, 0, 0) else none) else (if pc = 24 then some (.isub, 1, 0, 0, 0, 0) else none)) else (if pc < 28 then (if pc = 25 then some (.putfield 86, 3, 23, 3, 211, 0) else none) else (if pc < 29 then (if pc = 28 then some (.aload_n 0, 1, 0, 0, 0, 0) else none) else (if pc = 29 then some (.getfield 22, 3, 23, 2, 210, 0) else none)))))) else (if pc < 46 then (if pc < 38 then (if pc < 36 then (if pc < 33 then (if pc = 32 then some (.aload_n 0, 1, 0, 0, 0, 0) else none) else (if pc = 33 then some (.getfield 86, 3, 23, 3, 211, 0) else none)) else (if pc < 37 then (if pc = 36 then some (.aaload, 1, 0, 0, 0, 0) else none) else (if pc = 37 then some (.astore_n 1, 1, 0, 0, 0, 0) else none))) else (if pc < 42 then (if pc < 39 then (if pc = 38 then some (.aload_n 0, 1, 0, 0, 0, 0) else none) else (if pc = 39 then some (.getfield 22, 3, 23, 2, 210, 0) else none)) else (if pc < 43 then (if pc = 42 then some (.aload_n 0, 1, 0, 0, 0, 0) else none) else (if pc = 43 then some (.getfield 86, 3, 23, 3, 211, 0) else none)))) else (if pc < 52 then (if pc < 50 then (if pc < 47 then (if pc = 46 then some (.aload_n 0, 1, 0, 0, 0, 0) else none) else (if pc = 47 then some (.getfield 10, 3, 23, 0, 208, 0) else none)) else (if pc < 51 then (if pc = 50 then some (.aastore, 1, 0, 0, 0, 0) else none) else (if pc = 51 then some (.aload_n 0, 1, 0, 0, 0, 0) else none))) else (if pc < 56 then (if pc < 53 then (if pc = 52 then some (.aload_n 1, 1, 0, 0, 0, 0) else none) else (if pc = 53 then some (.putfield 10, 3, 23, 0, 208, 0) else none)) else (if pc < 57 then (if pc = 56 then some (.aload_n 0, 1, 0, 0, 0, 0) else none) else (if pc < 60 then (if pc = 57 then some (.getfield 86, 3, 23, 3, 211, 0) else none) else (if pc = 60 then some (.ireturn, 1, 0, 0, 0, 0) else none))))))
def f_X7_ticketOf (pc : Nat) : Option En := if pc < 9 then (if pc < 4 then (if pc < 1 then (if pc = 0 then some (.iload_n 1, 1, 0, 0, 0, 0) else none) else (if pc = 1 then some (.invokestatic 100, 3, 90, 1, 477, 0) else none)) else (if pc < 7 then (if pc = 4 then some (.ifCond .ne 5, 3, 9, 0, 0, 0) else none) else (if pc < 8 then (if pc = 7 then some (.iconst (-1), 1, 0, 0, 0, 0) else none) else (if pc = 8 then some (.ireturn, 1, 0, 0, 0, 0) else none)))) else (if pc < 14 then (if pc < 10 then (if pc = 9 then some (.aload_n 0, 1, 0, 0, 0, 0) else none) else (if pc < 13 then (if pc = 10 then some (.getfield 10, 3, 23, 0, 208, 0) else none) else (if pc = 13 then some (.iload_n 1, 1, 0, 0, 0, 0) else none))) else (if pc < 15 then (if pc = 14 then some (.iload_n 2, 1, 0, 0, 0, 0) else none) else (if pc < 18 then (if pc = 15 then some (.invokevirtual 104, 3, 41, 2, 478, 0) else none) else (if pc = 18 then some (.ireturn, 1, 0, 0, 0, 0) else none))))
def f_X7_drawOf (pc : Nat) : Option En := if pc < 10 then (if pc < 7 then (if pc < 1 then (if pc = 0 then some (.iload_n 1, 1, 0, 0, 0, 0) else none) else (if pc < 4 then (if pc = 1 then some (.invokestatic 107, 3, 91, 1, 566, 0) else none) else (if pc = 4 then some (.ifCond .ne 5, 3, 9, 0, 0, 0) else none))) else (if pc < 8 then (if pc = 7 then some (.iconst (-1), 1, 0, 0, 0, 0) else none) else (if pc < 9 then (if pc = 8 then some (.ireturn, 1, 0, 0, 0, 0) else none) else (if pc = 9 then some (.aload_n 0, 1, 0, 0, 0, 0) else none)))) else (if pc < 17 then (if pc < 13 then (if pc = 10 then some (.getfield 10, 3, 23, 0, 208, 0) else none) else (if pc < 16 then (if pc = 13 then some (.getfield 110, 3, 0, 4, 147, 0) else none) else (if pc = 16 then some (.iload_n 1, 1, 0, 0, 0, 0) else none))) else (if pc < 18 then (if pc = 17 then some (.iload_n 2, 1, 0, 0, 0, 0) else none) else (if pc < 21 then (if pc = 18 then some (.invokevirtual 114, 3, 12, 2, 569, 0) else none) else (if pc = 21 then some (.ireturn, 1, 0, 0, 0, 0) else none))))
def f_X7_windowOf (pc : Nat) : Option En := if pc < 18 then (if pc < 9 then (if pc < 4 then (if pc < 1 then (if pc = 0 then some (.iload_n 1, 1, 0, 0, 0, 0) else none) else (if pc = 1 then some (.invokestatic 119, 3, 92, 1, 552, 0) else none)) else (if pc < 7 then (if pc = 4 then some (.ifCond .ne 5, 3, 9, 0, 0, 0) else none) else (if pc < 8 then (if pc = 7 then some (.iconst (-1), 1, 0, 0, 0, 0) else none) else (if pc = 8 then some (.ireturn, 1, 0, 0, 0, 0) else none)))) else (if pc < 11 then (if pc < 10 then (if pc = 9 then some (.iload_n 2, 1, 0, 0, 0, 0) else none) else (if pc = 10 then some (.iconst 5, 1, 0, 0, 0, 0) else none)) else (if pc < 14 then (if pc = 11 then some (.if_icmp .ne 17, 3, 28, 0, 0, 0) else none) else (if pc < 15 then (if pc = 14 then some (.aload_n 0, 1, 0, 0, 0, 0) else none) else (if pc = 15 then some (.getfield 10, 3, 23, 0, 208, 0) else none))))) else (if pc < 29 then (if pc < 22 then (if pc < 21 then (if pc = 18 then some (.getfield 122, 3, 0, 3, 145, 0) else none) else (if pc = 21 then some (.iload_n 1, 1, 0, 0, 0, 0) else none)) else (if pc < 25 then (if pc = 22 then some (.invokevirtual 126, 3, 49, 1, 553, 0) else none) else (if pc < 28 then (if pc = 25 then some (.goto 15, 3, 40, 0, 0, 0) else none) else (if pc = 28 then some (.aload_n 0, 1, 0, 0, 0, 0) else none)))) else (if pc < 36 then (if pc < 32 then (if pc = 29 then some (.getfield 10, 3, 23, 0, 208, 0) else none) else (if pc < 35 then (if pc = 32 then some (.getfield 131, 3, 0, 5, 149, 0) else none) else (if pc = 35 then some (.iload_n 1, 1, 0, 0, 0, 0) else none))) else (if pc < 37 then (if pc = 36 then some (.iload_n 2, 1, 0, 0, 0, 0) else none) else (if pc < 40 then (if pc = 37 then some (.invokevirtual 135, 3, 69, 2, 557, 0) else none) else (if pc = 40 then some (.ireturn, 1, 0, 0, 0, 0) else none)))))
def f_X7_count (pc : Nat) : Option En := if pc < 60 then (if pc < 48 then (if pc < 40 then (if pc < 36 then (if pc < 1 then (if pc = 0 then some (.iload_n 1, 1, 0, 0, 0, 0) else none) else (if pc = 1 then some (.tableswitch 78 12 16 #[35, 40, 48, 58, 68], 35, 0, 0, 0, 0) else none)) else (if pc < 37 then (if pc = 36 then some (.aload_n 0, 1, 0, 0, 0, 0) else none) else (if pc = 37 then some (.getfield 86, 3, 23, 3, 211, 0) else none))) else (if pc < 42 then (if pc < 41 then (if pc = 40 then some (.ireturn, 1, 0, 0, 0, 0) else none) else (if pc = 41 then some (.aload_n 0, 1, 0, 0, 0, 0) else none)) else (if pc < 45 then (if pc = 42 then some (.getfield 29, 3, 23, 6, 213, 0) else none) else (if pc = 45 then some (.getfield 138, 3, 25, 0, 187, 0) else none)))) else (if pc < 56 then (if pc < 50 then (if pc < 49 then (if pc = 48 then some (.ireturn, 1, 0, 0, 0, 0) else none) else (if pc = 49 then some (.aload_n 0, 1, 0, 0, 0, 0) else none)) else (if pc < 53 then (if pc = 50 then some (.getfield 10, 3, 23, 0, 208, 0) else none) else (if pc = 53 then some (.getfield 141, 3, 0, 2, 143, 0) else none))) else (if pc < 58 then (if pc < 57 then (if pc = 56 then some (.iconst 0, 1, 0, 0, 0, 0) else none) else (if pc = 57 then some (.iaload, 1, 0, 0, 0, 0) else none)) else (if pc < 59 then (if pc = 58 then some (.ireturn, 1, 0, 0, 0, 0) else none) else (if pc = 59 then some (.aload_n 0, 1, 0, 0, 0, 0) else none))))) else (if pc < 76 then (if pc < 68 then (if pc < 66 then (if pc < 63 then (if pc = 60 then some (.getfield 10, 3, 23, 0, 208, 0) else none) else (if pc = 63 then some (.getfield 141, 3, 0, 2, 143, 0) else none)) else (if pc < 67 then (if pc = 66 then some (.iconst 1, 1, 0, 0, 0, 0) else none) else (if pc = 67 then some (.iaload, 1, 0, 0, 0, 0) else none))) else (if pc < 70 then (if pc < 69 then (if pc = 68 then some (.ireturn, 1, 0, 0, 0, 0) else none) else (if pc = 69 then some (.aload_n 0, 1, 0, 0, 0, 0) else none)) else (if pc < 73 then (if pc = 70 then some (.getfield 10, 3, 23, 0, 208, 0) else none) else (if pc = 73 then some (.getfield 141, 3, 0, 2, 143, 0) else none)))) else (if pc < 80 then (if pc < 78 then (if pc < 77 then (if pc = 76 then some (.iconst 2, 1, 0, 0, 0, 0) else none) else (if pc = 77 then some (.iaload, 1, 0, 0, 0, 0) else none)) else (if pc < 79 then (if pc = 78 then some (.ireturn, 1, 0, 0, 0, 0) else none) else (if pc = 79 then some (.aload_n 0, 1, 0, 0, 0, 0) else none))) else (if pc < 84 then (if pc < 83 then (if pc = 80 then some (.getfield 10, 3, 23, 0, 208, 0) else none) else (if pc = 83 then some (.iload_n 1, 1, 0, 0, 0, 0) else none)) else (if pc < 87 then (if pc = 84 then some (.invokevirtual 144, 3, 42, 1, 490, 0) else none) else (if pc = 87 then some (.ireturn, 1, 0, 0, 0, 0) else none)))))
def f_X7_paid (pc : Nat) : Option En := if pc < 11 then (if pc < 4 then (if pc < 1 then (if pc = 0 then some (.iload_n 1, 1, 0, 0, 0, 0) else none) else (if pc = 1 then some (.ifCond .eq 13, 3, 14, 0, 0, 0) else none)) else (if pc < 5 then (if pc = 4 then some (.aload_n 0, 1, 0, 0, 0, 0) else none) else (if pc < 8 then (if pc = 5 then some (.getfield 10, 3, 23, 0, 208, 0) else none) else (if pc = 8 then some (.invokevirtual 147, 3, 39, 0, 588, 0) else none)))) else (if pc < 15 then (if pc < 14 then (if pc = 11 then some (.goto 10, 3, 21, 0, 0, 0) else none) else (if pc = 14 then some (.aload_n 0, 1, 0, 0, 0, 0) else none)) else (if pc < 18 then (if pc = 15 then some (.getfield 10, 3, 23, 0, 208, 0) else none) else (if pc < 21 then (if pc = 18 then some (.invokevirtual 150, 3, 40, 0, 528, 0) else none) else (if pc = 21 then some (.ireturn, 1, 0, 0, 0, 0) else none))))
def f_X7_why (pc : Nat) : Option En := if pc < 15 then (if pc < 7 then (if pc < 1 then (if pc = 0 then some (.iload_n 1, 1, 0, 0, 0, 0) else none) else (if pc < 4 then (if pc = 1 then some (.invokestatic 119, 3, 92, 1, 552, 0) else none) else (if pc = 4 then some (.ifCond .eq 10, 3, 14, 0, 0, 0) else none))) else (if pc < 11 then (if pc < 8 then (if pc = 7 then some (.iload_n 2, 1, 0, 0, 0, 0) else none) else (if pc = 8 then some (.invokestatic 100, 3, 90, 1, 477, 0) else none)) else (if pc < 14 then (if pc = 11 then some (.ifCond .ne 5, 3, 16, 0, 0, 0) else none) else (if pc = 14 then some (.iconst (-1), 1, 0, 0, 0, 0) else none)))) else (if pc < 20 then (if pc < 16 then (if pc = 15 then some (.ireturn, 1, 0, 0, 0, 0) else none) else (if pc < 17 then (if pc = 16 then some (.aload_n 0, 1, 0, 0, 0, 0) else none) else (if pc = 17 then some (.getfield 10, 3, 23, 0, 208, 0) else none))) else (if pc < 22 then (if pc < 21 then (if pc = 20 then some (.iload_n 1, 1, 0, 0, 0, 0) else none) else (if pc = 21 then some (.iload_n 2, 1, 0, 0, 0, 0) else none)) else (if pc < 25 then (if pc = 22 then some (.invokevirtual 153, 3, 35, 2, 613, 0) else none) else (if pc = 25 then some (.ireturn, 1, 0, 0, 0, 0) else none))))
def f_X7_ifRule (pc : Nat) : Option En := if pc < 73 then (if pc < 24 then (if pc < 12 then (if pc < 5 then (if pc < 1 then (if pc = 0 then some (.iconst 0, 1, 0, 0, 0, 0) else none) else (if pc < 2 then (if pc = 1 then some (.iload_n 1, 1, 0, 0, 0, 0) else none) else (if pc = 2 then some (.invokestatic 156, 3, 94, 2, 510, 0) else none))) else (if pc < 8 then (if pc = 5 then some (.ifCond .eq 19, 3, 24, 0, 0, 0) else none) else (if pc < 9 then (if pc = 8 then some (.iload_n 2, 1, 0, 0, 0, 0) else none) else (if pc = 9 then some (.invokestatic 160, 3, 93, 1, 517, 0) else none)))) else (if pc < 19 then (if pc < 15 then (if pc = 12 then some (.ifCond .eq 12, 3, 24, 0, 0, 0) else none) else (if pc < 16 then (if pc = 15 then some (.iload_n 3, 1, 0, 0, 0, 0) else none) else (if pc = 16 then some (.ifCond .lt 8, 3, 24, 0, 0, 0) else none))) else (if pc < 20 then (if pc = 19 then some (.iload_n 3, 1, 0, 0, 0, 0) else none) else (if pc < 21 then (if pc = 20 then some (.iconst 3, 1, 0, 0, 0, 0) else none) else (if pc = 21 then some (.if_icmp .le 6, 3, 27, 0, 0, 0) else none))))) else (if pc < 33 then (if pc < 28 then (if pc < 26 then (if pc = 24 then some (.bipush (-2), 2, 0, 0, 0, 0) else none) else (if pc < 27 then (if pc = 26 then some (.ireturn, 1, 0, 0, 0, 0) else none) else (if pc = 27 then some (.aload_n 0, 1, 0, 0, 0, 0) else none))) else (if pc < 29 then (if pc = 28 then some (.iload_n 1, 1, 0, 0, 0, 0) else none) else (if pc < 30 then (if pc = 29 then some (.iload_n 2, 1, 0, 0, 0, 0) else none) else (if pc = 30 then some (.invokevirtual 163, 3, 89, 2, 518, 0) else none)))) else (if pc < 64 then (if pc < 35 then (if pc = 33 then some (.astore 4, 2, 0, 0, 0, 0) else none) else (if pc < 36 then (if pc = 35 then some (.iload_n 3, 1, 0, 0, 0, 0) else none) else (if pc = 36 then some (.tableswitch 74 0 2 #[28, 48, 54], 28, 0, 0, 0, 0) else none))) else (if pc < 69 then (if pc < 66 then (if pc = 64 then some (.aload 4, 2, 0, 0, 0, 0) else none) else (if pc = 66 then some (.getfield 131, 3, 0, 5, 149, 0) else none)) else (if pc < 72 then (if pc = 69 then some (.invokevirtual 167, 3, 63, 0, 523, 0) else none) else (if pc = 72 then some (.aload_n 0, 1, 0, 0, 0, 0) else none)))))) else (if pc < 102 then (if pc < 86 then (if pc < 82 then (if pc < 76 then (if pc = 73 then some (.getfield 10, 3, 23, 0, 208, 0) else none) else (if pc < 79 then (if pc = 76 then some (.getfield 131, 3, 0, 5, 149, 0) else none) else (if pc = 79 then some (.invokevirtual 167, 3, 63, 0, 523, 0) else none))) else (if pc < 83 then (if pc = 82 then some (.isub, 1, 0, 0, 0, 0) else none) else (if pc < 84 then (if pc = 83 then some (.ireturn, 1, 0, 0, 0, 0) else none) else (if pc = 84 then some (.aload 4, 2, 0, 0, 0, 0) else none)))) else (if pc < 92 then (if pc < 89 then (if pc = 86 then some (.getfield 170, 3, 0, 8, 153, 0) else none) else (if pc < 90 then (if pc = 89 then some (.ireturn, 1, 0, 0, 0, 0) else none) else (if pc = 90 then some (.aload 4, 2, 0, 0, 0, 0) else none))) else (if pc < 98 then (if pc < 95 then (if pc = 92 then some (.getfield 131, 3, 0, 5, 149, 0) else none) else (if pc = 95 then some (.invokevirtual 173, 3, 65, 0, 524, 0) else none)) else (if pc < 99 then (if pc = 98 then some (.aload_n 0, 1, 0, 0, 0, 0) else none) else (if pc = 99 then some (.getfield 10, 3, 23, 0, 208, 0) else none))))) else (if pc < 115 then (if pc < 109 then (if pc < 105 then (if pc = 102 then some (.getfield 131, 3, 0, 5, 149, 0) else none) else (if pc < 108 then (if pc = 105 then some (.invokevirtual 173, 3, 65, 0, 524, 0) else none) else (if pc = 108 then some (.isub, 1, 0, 0, 0, 0) else none))) else (if pc < 110 then (if pc = 109 then some (.ireturn, 1, 0, 0, 0, 0) else none) else (if pc < 112 then (if pc = 110 then some (.aload 4, 2, 0, 0, 0, 0) else none) else (if pc = 112 then some (.invokevirtual 150, 3, 40, 0, 528, 0) else none)))) else (if pc < 122 then (if pc < 116 then (if pc = 115 then some (.aload_n 0, 1, 0, 0, 0, 0) else none) else (if pc < 119 then (if pc = 116 then some (.getfield 10, 3, 23, 0, 208, 0) else none) else (if pc = 119 then some (.invokevirtual 150, 3, 40, 0, 528, 0) else none))) else (if pc < 125 then (if pc < 123 then (if pc = 122 then some (.isub, 1, 0, 0, 0, 0) else none) else (if pc = 123 then some (.ldc 176, 2, 100000, 0, 532, 0) else none)) else (if pc < 126 then (if pc = 125 then some (.iadd, 1, 0, 0, 0, 0) else none) else (if pc = 126 then some (.ireturn, 1, 0, 0, 0, 0) else none))))))
def f_X7_bestRule (pc : Nat) : Option En := if pc < 35 then (if pc < 13 then (if pc < 6 then (if pc < 3 then (if pc < 2 then (if pc = 0 then some (.bipush (-5), 2, 0, 0, 0, 0) else none) else (if pc = 2 then some (.istore_n 1, 1, 0, 0, 0, 0) else none)) else (if pc < 4 then (if pc = 3 then some (.iconst (-1), 1, 0, 0, 0, 0) else none) else (if pc < 5 then (if pc = 4 then some (.istore_n 2, 1, 0, 0, 0, 0) else none) else (if pc = 5 then some (.iconst 0, 1, 0, 0, 0, 0) else none)))) else (if pc < 8 then (if pc < 7 then (if pc = 6 then some (.istore_n 3, 1, 0, 0, 0, 0) else none) else (if pc = 7 then some (.iload_n 3, 1, 0, 0, 0, 0) else none)) else (if pc < 11 then (if pc = 8 then some (.getstatic 177, 3, 38, 0, 515, 0) else none) else (if pc < 12 then (if pc = 11 then some (.iconst 0, 1, 0, 0, 0, 0) else none) else (if pc = 12 then some (.iaload, 1, 0, 0, 0, 0) else none))))) else (if pc < 23 then (if pc < 17 then (if pc < 16 then (if pc = 13 then some (.if_icmp .gt 60, 3, 73, 0, 0, 0) else none) else (if pc = 16 then some (.aload_n 0, 1, 0, 0, 0, 0) else none)) else (if pc < 18 then (if pc = 17 then some (.iload_n 3, 1, 0, 0, 0, 0) else none) else (if pc < 20 then (if pc = 18 then some (.bipush 99, 2, 0, 0, 0, 0) else none) else (if pc = 20 then some (.invokevirtual 163, 3, 89, 2, 518, 0) else none)))) else (if pc < 27 then (if pc < 25 then (if pc = 23 then some (.astore 4, 2, 0, 0, 0, 0) else none) else (if pc = 25 then some (.aload 4, 2, 0, 0, 0, 0) else none)) else (if pc < 30 then (if pc = 27 then some (.getfield 131, 3, 0, 5, 149, 0) else none) else (if pc < 33 then (if pc = 30 then some (.invokevirtual 167, 3, 63, 0, 523, 0) else none) else (if pc = 33 then some (.aload 4, 2, 0, 0, 0, 0) else none)))))) else (if pc < 58 then (if pc < 46 then (if pc < 39 then (if pc < 38 then (if pc = 35 then some (.getfield 180, 3, 0, 9, 155, 0) else none) else (if pc = 38 then some (.isub, 1, 0, 0, 0, 0) else none)) else (if pc < 41 then (if pc = 39 then some (.istore 5, 2, 0, 0, 0, 0) else none) else (if pc < 43 then (if pc = 41 then some (.aload 4, 2, 0, 0, 0, 0) else none) else (if pc = 43 then some (.getfield 170, 3, 0, 8, 153, 0) else none)))) else (if pc < 50 then (if pc < 47 then (if pc = 46 then some (.aload_n 0, 1, 0, 0, 0, 0) else none) else (if pc = 47 then some (.getfield 10, 3, 23, 0, 208, 0) else none)) else (if pc < 53 then (if pc = 50 then some (.getfield 170, 3, 0, 8, 153, 0) else none) else (if pc < 56 then (if pc = 53 then some (.if_icmp .gt 14, 3, 67, 0, 0, 0) else none) else (if pc = 56 then some (.iload 5, 2, 0, 0, 0, 0) else none))))) else (if pc < 66 then (if pc < 62 then (if pc < 59 then (if pc = 58 then some (.iload_n 2, 1, 0, 0, 0, 0) else none) else (if pc = 59 then some (.if_icmp .le 8, 3, 67, 0, 0, 0) else none)) else (if pc < 63 then (if pc = 62 then some (.iload_n 3, 1, 0, 0, 0, 0) else none) else (if pc < 64 then (if pc = 63 then some (.istore_n 1, 1, 0, 0, 0, 0) else none) else (if pc = 64 then some (.iload 5, 2, 0, 0, 0, 0) else none)))) else (if pc < 70 then (if pc < 67 then (if pc = 66 then some (.istore_n 2, 1, 0, 0, 0, 0) else none) else (if pc = 67 then some (.iinc 3 1, 3, 0, 0, 0, 0) else none)) else (if pc < 73 then (if pc = 70 then some (.goto (-63), 3, 7, 0, 0, 0) else none) else (if pc < 74 then (if pc = 73 then some (.iload_n 1, 1, 0, 0, 0, 0) else none) else (if pc = 74 then some (.ireturn, 1, 0, 0, 0, 0) else none))))))
def f_X7_shortest (pc : Nat) : Option En := if pc < 4 then (if pc < 1 then (if pc = 0 then some (.aload_n 0, 1, 0, 0, 0, 0) else none) else (if pc = 1 then some (.getfield 10, 3, 23, 0, 208, 0) else none)) else (if pc < 7 then (if pc = 4 then some (.getfield 131, 3, 0, 5, 149, 0) else none) else (if pc < 10 then (if pc = 7 then some (.invokevirtual 183, 3, 68, 0, 596, 0) else none) else (if pc = 10 then some (.ireturn, 1, 0, 0, 0, 0) else none)))
def f_X7_beginAct (pc : Nat) : Option En := if pc < 8 then (if pc < 4 then (if pc < 1 then (if pc = 0 then some (.aload_n 0, 1, 0, 0, 0, 0) else none) else (if pc = 1 then some (.getfield 16, 3, 23, 1, 209, 0) else none)) else (if pc < 5 then (if pc = 4 then some (.aload_n 0, 1, 0, 0, 0, 0) else none) else (if pc = 5 then some (.getfield 10, 3, 23, 0, 208, 0) else none))) else (if pc < 12 then (if pc < 11 then (if pc = 8 then some (.invokevirtual 89, 3, 20, 1, 237, 0) else none) else (if pc = 11 then some (.aload_n 0, 1, 0, 0, 0, 0) else none)) else (if pc < 15 then (if pc = 12 then some (.getfield 10, 3, 23, 0, 208, 0) else none) else (if pc = 15 then some (.areturn, 1, 0, 0, 0, 0) else none)))
def f_X7_endAct (pc : Nat) : Option En := if pc < 5 then (if pc < 1 then (if pc = 0 then some (.iload_n 1, 1, 0, 0, 0, 0) else none) else (if pc < 4 then (if pc = 1 then some (.ifCond .lt 7, 3, 8, 0, 0, 0) else none) else (if pc = 4 then some (.aload_n 0, 1, 0, 0, 0, 0) else none))) else (if pc < 8 then (if pc = 5 then some (.invokevirtual 186, 3, 88, 0, 296, 0) else none) else (if pc < 9 then (if pc = 8 then some (.iload_n 1, 1, 0, 0, 0, 0) else none) else (if pc = 9 then some (.ireturn, 1, 0, 0, 0, 0) else none)))
def f_X7_record (pc : Nat) : Option En := if pc < 48 then (if pc < 24 then (if pc < 11 then (if pc < 5 then (if pc < 1 then (if pc = 0 then some (.aload_n 0, 1, 0, 0, 0, 0) else none) else (if pc < 4 then (if pc = 1 then some (.getfield 22, 3, 23, 2, 210, 0) else none) else (if pc = 4 then some (.iconst 0, 1, 0, 0, 0, 0) else none))) else (if pc < 7 then (if pc < 6 then (if pc = 5 then some (.aaload, 1, 0, 0, 0, 0) else none) else (if pc = 6 then some (.astore_n 1, 1, 0, 0, 0, 0) else none)) else (if pc < 8 then (if pc = 7 then some (.aload_n 0, 1, 0, 0, 0, 0) else none) else (if pc = 8 then some (.getfield 86, 3, 23, 3, 211, 0) else none)))) else (if pc < 16 then (if pc < 12 then (if pc = 11 then some (.iconst 4, 1, 0, 0, 0, 0) else none) else (if pc < 15 then (if pc = 12 then some (.if_icmp .ge 39, 3, 51, 0, 0, 0) else none) else (if pc = 15 then some (.aload_n 0, 1, 0, 0, 0, 0) else none))) else (if pc < 20 then (if pc < 19 then (if pc = 16 then some (.getfield 22, 3, 23, 2, 210, 0) else none) else (if pc = 19 then some (.aload_n 0, 1, 0, 0, 0, 0) else none)) else (if pc < 23 then (if pc = 20 then some (.getfield 86, 3, 23, 3, 211, 0) else none) else (if pc = 23 then some (.aaload, 1, 0, 0, 0, 0) else none))))) else (if pc < 37 then (if pc < 29 then (if pc < 25 then (if pc = 24 then some (.astore_n 1, 1, 0, 0, 0, 0) else none) else (if pc < 26 then (if pc = 25 then some (.aload_n 0, 1, 0, 0, 0, 0) else none) else (if pc = 26 then some (.getfield 22, 3, 23, 2, 210, 0) else none))) else (if pc < 33 then (if pc < 30 then (if pc = 29 then some (.aload_n 0, 1, 0, 0, 0, 0) else none) else (if pc = 30 then some (.getfield 86, 3, 23, 3, 211, 0) else none)) else (if pc < 34 then (if pc = 33 then some (.aload_n 0, 1, 0, 0, 0, 0) else none) else (if pc = 34 then some (.getfield 16, 3, 23, 1, 209, 0) else none)))) else (if pc < 40 then (if pc < 38 then (if pc = 37 then some (.aastore, 1, 0, 0, 0, 0) else none) else (if pc < 39 then (if pc = 38 then some (.aload_n 0, 1, 0, 0, 0, 0) else none) else (if pc = 39 then some (.dup, 1, 0, 0, 0, 0) else none))) else (if pc < 44 then (if pc < 43 then (if pc = 40 then some (.getfield 86, 3, 23, 3, 211, 0) else none) else (if pc = 43 then some (.iconst 1, 1, 0, 0, 0, 0) else none)) else (if pc < 45 then (if pc = 44 then some (.iadd, 1, 0, 0, 0, 0) else none) else (if pc = 45 then some (.putfield 86, 3, 23, 3, 211, 0) else none)))))) else (if pc < 70 then (if pc < 59 then (if pc < 53 then (if pc < 51 then (if pc = 48 then some (.goto 40, 3, 88, 0, 0, 0) else none) else (if pc < 52 then (if pc = 51 then some (.iconst 1, 1, 0, 0, 0, 0) else none) else (if pc = 52 then some (.istore_n 2, 1, 0, 0, 0, 0) else none))) else (if pc < 55 then (if pc < 54 then (if pc = 53 then some (.iload_n 2, 1, 0, 0, 0, 0) else none) else (if pc = 54 then some (.iconst 4, 1, 0, 0, 0, 0) else none)) else (if pc < 58 then (if pc = 55 then some (.if_icmp .ge 23, 3, 78, 0, 0, 0) else none) else (if pc = 58 then some (.aload_n 0, 1, 0, 0, 0, 0) else none)))) else (if pc < 64 then (if pc < 62 then (if pc = 59 then some (.getfield 22, 3, 23, 2, 210, 0) else none) else (if pc < 63 then (if pc = 62 then some (.iload_n 2, 1, 0, 0, 0, 0) else none) else (if pc = 63 then some (.iconst 1, 1, 0, 0, 0, 0) else none))) else (if pc < 66 then (if pc < 65 then (if pc = 64 then some (.isub, 1, 0, 0, 0, 0) else none) else (if pc = 65 then some (.aload_n 0, 1, 0, 0, 0, 0) else none)) else (if pc < 69 then (if pc = 66 then some (.getfield 22, 3, 23, 2, 210, 0) else none) else (if pc = 69 then some (.iload_n 2, 1, 0, 0, 0, 0) else none))))) else (if pc < 83 then (if pc < 75 then (if pc < 71 then (if pc = 70 then some (.aaload, 1, 0, 0, 0, 0) else none) else (if pc < 72 then (if pc = 71 then some (.aastore, 1, 0, 0, 0, 0) else none) else (if pc = 72 then some (.iinc 2 1, 3, 0, 0, 0, 0) else none))) else (if pc < 79 then (if pc < 78 then (if pc = 75 then some (.goto (-22), 3, 53, 0, 0, 0) else none) else (if pc = 78 then some (.aload_n 0, 1, 0, 0, 0, 0) else none)) else (if pc < 82 then (if pc = 79 then some (.getfield 22, 3, 23, 2, 210, 0) else none) else (if pc = 82 then some (.iconst 3, 1, 0, 0, 0, 0) else none)))) else (if pc < 88 then (if pc < 84 then (if pc = 83 then some (.aload_n 0, 1, 0, 0, 0, 0) else none) else (if pc < 87 then (if pc = 84 then some (.getfield 16, 3, 23, 1, 209, 0) else none) else (if pc = 87 then some (.aastore, 1, 0, 0, 0, 0) else none))) else (if pc < 90 then (if pc < 89 then (if pc = 88 then some (.aload_n 0, 1, 0, 0, 0, 0) else none) else (if pc = 89 then some (.aload_n 1, 1, 0, 0, 0, 0) else none)) else (if pc < 93 then (if pc = 90 then some (.putfield 16, 3, 23, 1, 209, 0) else none) else (if pc = 93 then some (.return_, 1, 0, 0, 0, 0) else none))))))
def f_X7_runWithRule (pc : Nat) : Option En := if pc < 19 then (if pc < 8 then (if pc < 4 then (if pc < 1 then (if pc = 0 then some (.aload_n 0, 1, 0, 0, 0, 0) else none) else (if pc = 1 then some (.getfield 16, 3, 23, 1, 209, 0) else none)) else (if pc < 5 then (if pc = 4 then some (.aload_n 0, 1, 0, 0, 0, 0) else none) else (if pc = 5 then some (.getfield 10, 3, 23, 0, 208, 0) else none))) else (if pc < 12 then (if pc < 11 then (if pc = 8 then some (.invokevirtual 89, 3, 20, 1, 237, 0) else none) else (if pc = 11 then some (.aload_n 0, 1, 0, 0, 0, 0) else none)) else (if pc < 15 then (if pc = 12 then some (.getfield 16, 3, 23, 1, 209, 0) else none) else (if pc < 18 then (if pc = 15 then some (.getfield 141, 3, 0, 2, 143, 0) else none) else (if pc = 18 then some (.iconst 0, 1, 0, 0, 0, 0) else none))))) else (if pc < 25 then (if pc < 21 then (if pc < 20 then (if pc = 19 then some (.iload_n 1, 1, 0, 0, 0, 0) else none) else (if pc = 20 then some (.iastore, 1, 0, 0, 0, 0) else none)) else (if pc < 22 then (if pc = 21 then some (.aload_n 0, 1, 0, 0, 0, 0) else none) else (if pc = 22 then some (.getfield 16, 3, 23, 1, 209, 0) else none))) else (if pc < 29 then (if pc < 26 then (if pc = 25 then some (.iload_n 2, 1, 0, 0, 0, 0) else none) else (if pc = 26 then some (.invokevirtual 189, 3, 28, 1, 522, 0) else none)) else (if pc < 30 then (if pc = 29 then some (.aload_n 0, 1, 0, 0, 0, 0) else none) else (if pc < 33 then (if pc = 30 then some (.getfield 16, 3, 23, 1, 209, 0) else none) else (if pc = 33 then some (.areturn, 1, 0, 0, 0, 0) else none)))))
def f_X7_isTicket (pc : Nat) : Option En := if pc < 8 then (if pc < 4 then (if pc < 1 then (if pc = 0 then some (.iload_n 0, 1, 0, 0, 0, 0) else none) else (if pc = 1 then some (.ifCond .lt 14, 3, 15, 0, 0, 0) else none)) else (if pc < 5 then (if pc = 4 then some (.iload_n 0, 1, 0, 0, 0, 0) else none) else (if pc = 5 then some (.sipush 600, 3, 0, 0, 0, 0) else none))) else (if pc < 12 then (if pc < 11 then (if pc = 8 then some (.if_icmp .ge 7, 3, 15, 0, 0, 0) else none) else (if pc = 11 then some (.iconst 1, 1, 0, 0, 0, 0) else none)) else (if pc < 15 then (if pc = 12 then some (.goto 4, 3, 16, 0, 0, 0) else none) else (if pc < 16 then (if pc = 15 then some (.iconst 0, 1, 0, 0, 0, 0) else none) else (if pc = 16 then some (.ireturn, 1, 0, 0, 0, 0) else none))))
def f_X7_isDraw (pc : Nat) : Option En := if pc < 7 then (if pc < 4 then (if pc < 1 then (if pc = 0 then some (.iload_n 0, 1, 0, 0, 0, 0) else none) else (if pc = 1 then some (.ifCond .lt 13, 3, 14, 0, 0, 0) else none)) else (if pc < 5 then (if pc = 4 then some (.iload_n 0, 1, 0, 0, 0, 0) else none) else (if pc = 5 then some (.bipush 6, 2, 0, 0, 0, 0) else none))) else (if pc < 11 then (if pc < 10 then (if pc = 7 then some (.if_icmp .ge 7, 3, 14, 0, 0, 0) else none) else (if pc = 10 then some (.iconst 1, 1, 0, 0, 0, 0) else none)) else (if pc < 14 then (if pc = 11 then some (.goto 4, 3, 15, 0, 0, 0) else none) else (if pc < 15 then (if pc = 14 then some (.iconst 0, 1, 0, 0, 0, 0) else none) else (if pc = 15 then some (.ireturn, 1, 0, 0, 0, 0) else none))))
def f_X7_isWindow (pc : Nat) : Option En := if pc < 6 then (if pc < 4 then (if pc < 1 then (if pc = 0 then some (.iload_n 0, 1, 0, 0, 0, 0) else none) else (if pc = 1 then some (.ifCond .lt 12, 3, 13, 0, 0, 0) else none)) else (if pc < 5 then (if pc = 4 then some (.iload_n 0, 1, 0, 0, 0, 0) else none) else (if pc = 5 then some (.iconst 3, 1, 0, 0, 0, 0) else none))) else (if pc < 10 then (if pc < 9 then (if pc = 6 then some (.if_icmp .ge 7, 3, 13, 0, 0, 0) else none) else (if pc = 9 then some (.iconst 1, 1, 0, 0, 0, 0) else none)) else (if pc < 13 then (if pc = 10 then some (.goto 4, 3, 14, 0, 0, 0) else none) else (if pc < 14 then (if pc = 13 then some (.iconst 0, 1, 0, 0, 0, 0) else none) else (if pc = 14 then some (.ireturn, 1, 0, 0, 0, 0) else none))))
def f_X7_areTicks (pc : Nat) : Option En := if pc < 8 then (if pc < 2 then (if pc < 1 then (if pc = 0 then some (.iload_n 0, 1, 0, 0, 0, 0) else none) else (if pc = 1 then some (.iconst 1, 1, 0, 0, 0, 0) else none)) else (if pc < 5 then (if pc = 2 then some (.if_icmp .lt 13, 3, 15, 0, 0, 0) else none) else (if pc < 6 then (if pc = 5 then some (.iload_n 0, 1, 0, 0, 0, 0) else none) else (if pc = 6 then some (.bipush 99, 2, 0, 0, 0, 0) else none)))) else (if pc < 12 then (if pc < 11 then (if pc = 8 then some (.if_icmp .gt 7, 3, 15, 0, 0, 0) else none) else (if pc = 11 then some (.iconst 1, 1, 0, 0, 0, 0) else none)) else (if pc < 15 then (if pc = 12 then some (.goto 4, 3, 16, 0, 0, 0) else none) else (if pc < 16 then (if pc = 15 then some (.iconst 0, 1, 0, 0, 0, 0) else none) else (if pc = 16 then some (.ireturn, 1, 0, 0, 0, 0) else none))))
def f_X7_isSetting (pc : Nat) : Option En := if pc < 15 then (if pc < 6 then (if pc < 4 then (if pc < 1 then (if pc = 0 then some (.iload_n 0, 1, 0, 0, 0, 0) else none) else (if pc = 1 then some (.ifCond .lt 30, 3, 31, 0, 0, 0) else none)) else (if pc < 5 then (if pc = 4 then some (.iload_n 0, 1, 0, 0, 0, 0) else none) else (if pc = 5 then some (.iconst 3, 1, 0, 0, 0, 0) else none))) else (if pc < 10 then (if pc < 9 then (if pc = 6 then some (.if_icmp .ge 25, 3, 31, 0, 0, 0) else none) else (if pc = 9 then some (.iload_n 1, 1, 0, 0, 0, 0) else none)) else (if pc < 13 then (if pc = 10 then some (.getstatic 193, 3, 37, 0, 513, 0) else none) else (if pc < 14 then (if pc = 13 then some (.iload_n 0, 1, 0, 0, 0, 0) else none) else (if pc = 14 then some (.iaload, 1, 0, 0, 0, 0) else none))))) else (if pc < 24 then (if pc < 19 then (if pc < 18 then (if pc = 15 then some (.if_icmp .lt 16, 3, 31, 0, 0, 0) else none) else (if pc = 18 then some (.iload_n 1, 1, 0, 0, 0, 0) else none)) else (if pc < 22 then (if pc = 19 then some (.getstatic 177, 3, 38, 0, 515, 0) else none) else (if pc < 23 then (if pc = 22 then some (.iload_n 0, 1, 0, 0, 0, 0) else none) else (if pc = 23 then some (.iaload, 1, 0, 0, 0, 0) else none)))) else (if pc < 28 then (if pc < 27 then (if pc = 24 then some (.if_icmp .gt 7, 3, 31, 0, 0, 0) else none) else (if pc = 27 then some (.iconst 1, 1, 0, 0, 0, 0) else none)) else (if pc < 31 then (if pc = 28 then some (.goto 4, 3, 32, 0, 0, 0) else none) else (if pc < 32 then (if pc = 31 then some (.iconst 0, 1, 0, 0, 0, 0) else none) else (if pc = 32 then some (.ireturn, 1, 0, 0, 0, 0) else none)))))
def f_J6_bitCount_0f7a4 (pc : Nat) : Option En := if pc < 27 then (if pc < 14 then (if pc < 7 then (if pc < 2 then (if pc < 1 then (if pc = 0 then some (.iload_n 0, 1, 0, 0, 0, 0) else none) else (if pc = 1 then some (.iload_n 0, 1, 0, 0, 0, 0) else none)) else (if pc < 3 then (if pc = 2 then some (.iconst 1, 1, 0, 0, 0, 0) else none) else (if pc < 4 then (if pc = 3 then some (.iushr, 1, 0, 0, 0, 0) else none) else (if pc = 4 then some (.ldc_w 265, 3, 1431655765, 0, 406, 0) else none)))) else (if pc < 9 then (if pc < 8 then (if pc = 7 then some (.iand, 1, 0, 0, 0, 0) else none) else (if pc = 8 then some (.isub, 1, 0, 0, 0, 0) else none)) else (if pc < 10 then (if pc = 9 then some (.istore_n 0, 1, 0, 0, 0, 0) else none) else (if pc < 11 then (if pc = 10 then some (.iload_n 0, 1, 0, 0, 0, 0) else none) else (if pc = 11 then some (.ldc_w 266, 3, 858993459, 0, 407, 0) else none))))) else (if pc < 21 then (if pc < 16 then (if pc < 15 then (if pc = 14 then some (.iand, 1, 0, 0, 0, 0) else none) else (if pc = 15 then some (.iload_n 0, 1, 0, 0, 0, 0) else none)) else (if pc < 17 then (if pc = 16 then some (.iconst 2, 1, 0, 0, 0, 0) else none) else (if pc < 18 then (if pc = 17 then some (.iushr, 1, 0, 0, 0, 0) else none) else (if pc = 18 then some (.ldc_w 266, 3, 858993459, 0, 407, 0) else none)))) else (if pc < 24 then (if pc < 22 then (if pc = 21 then some (.iand, 1, 0, 0, 0, 0) else none) else (if pc < 23 then (if pc = 22 then some (.iadd, 1, 0, 0, 0, 0) else none) else (if pc = 23 then some (.istore_n 0, 1, 0, 0, 0, 0) else none))) else (if pc < 25 then (if pc = 24 then some (.iload_n 0, 1, 0, 0, 0, 0) else none) else (if pc < 26 then (if pc = 25 then some (.iload_n 0, 1, 0, 0, 0, 0) else none) else (if pc = 26 then some (.iconst 4, 1, 0, 0, 0, 0) else none)))))) else (if pc < 40 then (if pc < 34 then (if pc < 29 then (if pc < 28 then (if pc = 27 then some (.iushr, 1, 0, 0, 0, 0) else none) else (if pc = 28 then some (.iadd, 1, 0, 0, 0, 0) else none)) else (if pc < 32 then (if pc = 29 then some (.ldc_w 267, 3, 252645135, 0, 408, 0) else none) else (if pc < 33 then (if pc = 32 then some (.iand, 1, 0, 0, 0, 0) else none) else (if pc = 33 then some (.istore_n 0, 1, 0, 0, 0, 0) else none)))) else (if pc < 36 then (if pc < 35 then (if pc = 34 then some (.iload_n 0, 1, 0, 0, 0, 0) else none) else (if pc = 35 then some (.iload_n 0, 1, 0, 0, 0, 0) else none)) else (if pc < 38 then (if pc = 36 then some (.bipush 8, 2, 0, 0, 0, 0) else none) else (if pc < 39 then (if pc = 38 then some (.iushr, 1, 0, 0, 0, 0) else none) else (if pc = 39 then some (.iadd, 1, 0, 0, 0, 0) else none))))) else (if pc < 46 then (if pc < 42 then (if pc < 41 then (if pc = 40 then some (.istore_n 0, 1, 0, 0, 0, 0) else none) else (if pc = 41 then some (.iload_n 0, 1, 0, 0, 0, 0) else none)) else (if pc < 43 then (if pc = 42 then some (.iload_n 0, 1, 0, 0, 0, 0) else none) else (if pc < 45 then (if pc = 43 then some (.bipush 16, 2, 0, 0, 0, 0) else none) else (if pc = 45 then some (.iushr, 1, 0, 0, 0, 0) else none)))) else (if pc < 49 then (if pc < 47 then (if pc = 46 then some (.iadd, 1, 0, 0, 0, 0) else none) else (if pc < 48 then (if pc = 47 then some (.istore_n 0, 1, 0, 0, 0, 0) else none) else (if pc = 48 then some (.iload_n 0, 1, 0, 0, 0, 0) else none))) else (if pc < 51 then (if pc = 49 then some (.bipush 63, 2, 0, 0, 0, 0) else none) else (if pc < 52 then (if pc = 51 then some (.iand, 1, 0, 0, 0, 0) else none) else (if pc = 52 then some (.ireturn, 1, 0, 0, 0, 0) else none))))))
def f_L_cell (pc : Nat) : Option En := if pc < 9 then (if pc < 3 then (if pc < 1 then (if pc = 0 then some (.iload_n 1, 1, 0, 0, 0, 0) else none) else (if pc < 2 then (if pc = 1 then some (.aload_n 0, 1, 0, 0, 0, 0) else none) else (if pc = 2 then some (.arraylength, 1, 0, 0, 0, 0) else none))) else (if pc < 7 then (if pc < 6 then (if pc = 3 then some (.if_icmp .ge 9, 3, 12, 0, 0, 0) else none) else (if pc = 6 then some (.aload_n 0, 1, 0, 0, 0, 0) else none)) else (if pc < 8 then (if pc = 7 then some (.iload_n 1, 1, 0, 0, 0, 0) else none) else (if pc = 8 then some (.iaload, 1, 0, 0, 0, 0) else none)))) else (if pc < 15 then (if pc < 12 then (if pc = 9 then some (.goto 11, 3, 20, 0, 0, 0) else none) else (if pc < 14 then (if pc = 12 then some (.ldc 7, 2, 2751597, 0, 540, 0) else none) else (if pc = 14 then some (.iload_n 1, 1, 0, 0, 0, 0) else none))) else (if pc < 19 then (if pc < 16 then (if pc = 15 then some (.imul, 1, 0, 0, 0, 0) else none) else (if pc = 16 then some (.sipush 2029, 3, 0, 0, 0, 0) else none)) else (if pc < 20 then (if pc = 19 then some (.iadd, 1, 0, 0, 0, 0) else none) else (if pc = 20 then some (.ireturn, 1, 0, 0, 0, 0) else none))))
def f_L_low (pc : Nat) : Option En := if pc < 4 then (if pc < 1 then (if pc = 0 then some (.iload_n 0, 1, 0, 0, 0, 0) else none) else (if pc < 3 then (if pc = 1 then some (.ldc 8, 2, 2147483647, 0, 544, 0) else none) else (if pc = 3 then some (.iand, 1, 0, 0, 0, 0) else none))) else (if pc < 5 then (if pc = 4 then some (.iload_n 1, 1, 0, 0, 0, 0) else none) else (if pc < 6 then (if pc = 5 then some (.irem, 1, 0, 0, 0, 0) else none) else (if pc = 6 then some (.ireturn, 1, 0, 0, 0, 0) else none)))
def f_L_tell (pc : Nat) : Option En := if pc < 79 then (if pc < 39 then (if pc < 17 then (if pc < 8 then (if pc < 5 then (if pc < 2 then (if pc = 0 then some (.bipush 64, 2, 0, 0, 0, 0) else none) else (if pc < 4 then (if pc = 2 then some (.newarray .int, 2, 0, 0, 0, 0) else none) else (if pc = 4 then some (.astore_n 1, 1, 0, 0, 0, 0) else none))) else (if pc < 6 then (if pc = 5 then some (.iconst 0, 1, 0, 0, 0, 0) else none) else (if pc < 7 then (if pc = 6 then some (.istore_n 2, 1, 0, 0, 0, 0) else none) else (if pc = 7 then some (.iload_n 2, 1, 0, 0, 0, 0) else none)))) else (if pc < 14 then (if pc < 10 then (if pc = 8 then some (.bipush 12, 2, 0, 0, 0, 0) else none) else (if pc < 13 then (if pc = 10 then some (.if_icmp .ge 17, 3, 27, 0, 0, 0) else none) else (if pc = 13 then some (.aload_n 1, 1, 0, 0, 0, 0) else none))) else (if pc < 15 then (if pc = 14 then some (.iload_n 2, 1, 0, 0, 0, 0) else none) else (if pc < 16 then (if pc = 15 then some (.aload_n 0, 1, 0, 0, 0, 0) else none) else (if pc = 16 then some (.iload_n 2, 1, 0, 0, 0, 0) else none))))) else (if pc < 29 then (if pc < 24 then (if pc < 20 then (if pc = 17 then some (.invokevirtual 9, 3, 80, 1, 486, 0) else none) else (if pc < 21 then (if pc = 20 then some (.iastore, 1, 0, 0, 0, 0) else none) else (if pc = 21 then some (.iinc 2 1, 3, 0, 0, 0, 0) else none))) else (if pc < 27 then (if pc = 24 then some (.goto (-17), 3, 7, 0, 0, 0) else none) else (if pc < 28 then (if pc = 27 then some (.iconst 0, 1, 0, 0, 0, 0) else none) else (if pc = 28 then some (.istore_n 2, 1, 0, 0, 0, 0) else none)))) else (if pc < 34 then (if pc < 30 then (if pc = 29 then some (.iload_n 2, 1, 0, 0, 0, 0) else none) else (if pc < 31 then (if pc = 30 then some (.iconst 3, 1, 0, 0, 0, 0) else none) else (if pc = 31 then some (.if_icmp .ge 54, 3, 85, 0, 0, 0) else none))) else (if pc < 37 then (if pc < 35 then (if pc = 34 then some (.aload_n 1, 1, 0, 0, 0, 0) else none) else (if pc = 35 then some (.bipush 12, 2, 0, 0, 0, 0) else none)) else (if pc < 38 then (if pc = 37 then some (.iload_n 2, 1, 0, 0, 0, 0) else none) else (if pc = 38 then some (.iadd, 1, 0, 0, 0, 0) else none)))))) else (if pc < 59 then (if pc < 48 then (if pc < 43 then (if pc < 40 then (if pc = 39 then some (.aload_n 0, 1, 0, 0, 0, 0) else none) else (if pc < 42 then (if pc = 40 then some (.bipush 14, 2, 0, 0, 0, 0) else none) else (if pc = 42 then some (.iload_n 2, 1, 0, 0, 0, 0) else none))) else (if pc < 44 then (if pc = 43 then some (.iadd, 1, 0, 0, 0, 0) else none) else (if pc < 47 then (if pc = 44 then some (.invokevirtual 9, 3, 80, 1, 486, 0) else none) else (if pc = 47 then some (.iastore, 1, 0, 0, 0, 0) else none)))) else (if pc < 51 then (if pc < 49 then (if pc = 48 then some (.iconst 0, 1, 0, 0, 0, 0) else none) else (if pc < 50 then (if pc = 49 then some (.istore_n 3, 1, 0, 0, 0, 0) else none) else (if pc = 50 then some (.iload_n 3, 1, 0, 0, 0, 0) else none))) else (if pc < 56 then (if pc < 53 then (if pc = 51 then some (.bipush 10, 2, 0, 0, 0, 0) else none) else (if pc = 53 then some (.if_icmp .ge 26, 3, 79, 0, 0, 0) else none)) else (if pc < 57 then (if pc = 56 then some (.aload_n 1, 1, 0, 0, 0, 0) else none) else (if pc = 57 then some (.bipush 15, 2, 0, 0, 0, 0) else none))))) else (if pc < 66 then (if pc < 63 then (if pc < 61 then (if pc = 59 then some (.bipush 10, 2, 0, 0, 0, 0) else none) else (if pc < 62 then (if pc = 61 then some (.iload_n 2, 1, 0, 0, 0, 0) else none) else (if pc = 62 then some (.imul, 1, 0, 0, 0, 0) else none))) else (if pc < 64 then (if pc = 63 then some (.iadd, 1, 0, 0, 0, 0) else none) else (if pc < 65 then (if pc = 64 then some (.iload_n 3, 1, 0, 0, 0, 0) else none) else (if pc = 65 then some (.iadd, 1, 0, 0, 0, 0) else none)))) else (if pc < 69 then (if pc < 67 then (if pc = 66 then some (.aload_n 0, 1, 0, 0, 0, 0) else none) else (if pc < 68 then (if pc = 67 then some (.iload_n 2, 1, 0, 0, 0, 0) else none) else (if pc = 68 then some (.iload_n 3, 1, 0, 0, 0, 0) else none))) else (if pc < 73 then (if pc < 72 then (if pc = 69 then some (.invokevirtual 15, 3, 79, 2, 548, 0) else none) else (if pc = 72 then some (.iastore, 1, 0, 0, 0, 0) else none)) else (if pc < 76 then (if pc = 73 then some (.iinc 3 1, 3, 0, 0, 0, 0) else none) else (if pc = 76 then some (.goto (-26), 3, 50, 0, 0, 0) else none))))))) else (if pc < 119 then (if pc < 99 then (if pc < 90 then (if pc < 86 then (if pc < 82 then (if pc = 79 then some (.iinc 2 1, 3, 0, 0, 0, 0) else none) else (if pc < 85 then (if pc = 82 then some (.goto (-53), 3, 29, 0, 0, 0) else none) else (if pc = 85 then some (.iconst 0, 1, 0, 0, 0, 0) else none))) else (if pc < 87 then (if pc = 86 then some (.istore_n 2, 1, 0, 0, 0, 0) else none) else (if pc < 88 then (if pc = 87 then some (.iload_n 2, 1, 0, 0, 0, 0) else none) else (if pc = 88 then some (.bipush 6, 2, 0, 0, 0, 0) else none)))) else (if pc < 96 then (if pc < 93 then (if pc = 90 then some (.if_icmp .ge 49, 3, 139, 0, 0, 0) else none) else (if pc < 94 then (if pc = 93 then some (.aload_n 1, 1, 0, 0, 0, 0) else none) else (if pc = 94 then some (.bipush 45, 2, 0, 0, 0, 0) else none))) else (if pc < 97 then (if pc = 96 then some (.iconst 2, 1, 0, 0, 0, 0) else none) else (if pc < 98 then (if pc = 97 then some (.iload_n 2, 1, 0, 0, 0, 0) else none) else (if pc = 98 then some (.imul, 1, 0, 0, 0, 0) else none))))) else (if pc < 109 then (if pc < 104 then (if pc < 100 then (if pc = 99 then some (.iadd, 1, 0, 0, 0, 0) else none) else (if pc < 103 then (if pc = 100 then some (.sipush 1000, 3, 0, 0, 0, 0) else none) else (if pc = 103 then some (.aload_n 0, 1, 0, 0, 0, 0) else none))) else (if pc < 105 then (if pc = 104 then some (.iload_n 2, 1, 0, 0, 0, 0) else none) else (if pc < 106 then (if pc = 105 then some (.iconst 1, 1, 0, 0, 0, 0) else none) else (if pc = 106 then some (.invokevirtual 19, 3, 78, 2, 562, 0) else none)))) else (if pc < 112 then (if pc < 110 then (if pc = 109 then some (.imul, 1, 0, 0, 0, 0) else none) else (if pc < 111 then (if pc = 110 then some (.aload_n 0, 1, 0, 0, 0, 0) else none) else (if pc = 111 then some (.iload_n 2, 1, 0, 0, 0, 0) else none))) else (if pc < 117 then (if pc < 114 then (if pc = 112 then some (.bipush 7, 2, 0, 0, 0, 0) else none) else (if pc = 114 then some (.invokevirtual 19, 3, 78, 2, 562, 0) else none)) else (if pc < 118 then (if pc = 117 then some (.iadd, 1, 0, 0, 0, 0) else none) else (if pc = 118 then some (.iastore, 1, 0, 0, 0, 0) else none)))))) else (if pc < 139 then (if pc < 126 then (if pc < 123 then (if pc < 120 then (if pc = 119 then some (.aload_n 1, 1, 0, 0, 0, 0) else none) else (if pc < 122 then (if pc = 120 then some (.bipush 46, 2, 0, 0, 0, 0) else none) else (if pc = 122 then some (.iconst 2, 1, 0, 0, 0, 0) else none))) else (if pc < 124 then (if pc = 123 then some (.iload_n 2, 1, 0, 0, 0, 0) else none) else (if pc < 125 then (if pc = 124 then some (.imul, 1, 0, 0, 0, 0) else none) else (if pc = 125 then some (.iadd, 1, 0, 0, 0, 0) else none)))) else (if pc < 129 then (if pc < 127 then (if pc = 126 then some (.aload_n 0, 1, 0, 0, 0, 0) else none) else (if pc < 128 then (if pc = 127 then some (.iload_n 2, 1, 0, 0, 0, 0) else none) else (if pc = 128 then some (.iconst 3, 1, 0, 0, 0, 0) else none))) else (if pc < 133 then (if pc < 132 then (if pc = 129 then some (.invokevirtual 19, 3, 78, 2, 562, 0) else none) else (if pc = 132 then some (.iastore, 1, 0, 0, 0, 0) else none)) else (if pc < 136 then (if pc = 133 then some (.iinc 2 1, 3, 0, 0, 0, 0) else none) else (if pc = 136 then some (.goto (-49), 3, 87, 0, 0, 0) else none))))) else (if pc < 148 then (if pc < 143 then (if pc < 140 then (if pc = 139 then some (.aload_n 1, 1, 0, 0, 0, 0) else none) else (if pc < 142 then (if pc = 140 then some (.bipush 57, 2, 0, 0, 0, 0) else none) else (if pc = 142 then some (.aload_n 0, 1, 0, 0, 0, 0) else none))) else (if pc < 144 then (if pc = 143 then some (.iconst 1, 1, 0, 0, 0, 0) else none) else (if pc < 147 then (if pc = 144 then some (.invokevirtual 22, 3, 81, 1, 584, 0) else none) else (if pc = 147 then some (.iastore, 1, 0, 0, 0, 0) else none)))) else (if pc < 152 then (if pc < 149 then (if pc = 148 then some (.aload_n 1, 1, 0, 0, 0, 0) else none) else (if pc < 151 then (if pc = 149 then some (.bipush 58, 2, 0, 0, 0, 0) else none) else (if pc = 151 then some (.aload_n 0, 1, 0, 0, 0, 0) else none))) else (if pc < 156 then (if pc < 155 then (if pc = 152 then some (.invokevirtual 26, 3, 85, 0, 592, 0) else none) else (if pc = 155 then some (.iastore, 1, 0, 0, 0, 0) else none)) else (if pc < 157 then (if pc = 156 then some (.aload_n 1, 1, 0, 0, 0, 0) else none) else (if pc = 157 then some (.areturn, 1, 0, 0, 0, 0) else none)))))))
def f_L_same (pc : Nat) : Option En := if pc < 12 then (if pc < 5 then (if pc < 2 then (if pc < 1 then (if pc = 0 then some (.iconst 0, 1, 0, 0, 0, 0) else none) else (if pc = 1 then some (.istore_n 2, 1, 0, 0, 0, 0) else none)) else (if pc < 3 then (if pc = 2 then some (.iload_n 2, 1, 0, 0, 0, 0) else none) else (if pc = 3 then some (.bipush 59, 2, 0, 0, 0, 0) else none))) else (if pc < 9 then (if pc < 8 then (if pc = 5 then some (.if_icmp .ge 20, 3, 25, 0, 0, 0) else none) else (if pc = 8 then some (.aload_n 0, 1, 0, 0, 0, 0) else none)) else (if pc < 10 then (if pc = 9 then some (.iload_n 2, 1, 0, 0, 0, 0) else none) else (if pc < 11 then (if pc = 10 then some (.iaload, 1, 0, 0, 0, 0) else none) else (if pc = 11 then some (.aload_n 1, 1, 0, 0, 0, 0) else none))))) else (if pc < 18 then (if pc < 14 then (if pc < 13 then (if pc = 12 then some (.iload_n 2, 1, 0, 0, 0, 0) else none) else (if pc = 13 then some (.iaload, 1, 0, 0, 0, 0) else none)) else (if pc < 17 then (if pc = 14 then some (.if_icmp .eq 5, 3, 19, 0, 0, 0) else none) else (if pc = 17 then some (.iconst 0, 1, 0, 0, 0, 0) else none))) else (if pc < 22 then (if pc < 19 then (if pc = 18 then some (.ireturn, 1, 0, 0, 0, 0) else none) else (if pc = 19 then some (.iinc 2 1, 3, 0, 0, 0, 0) else none)) else (if pc < 25 then (if pc = 22 then some (.goto (-20), 3, 2, 0, 0, 0) else none) else (if pc < 26 then (if pc = 25 then some (.iconst 1, 1, 0, 0, 0, 0) else none) else (if pc = 26 then some (.ireturn, 1, 0, 0, 0, 0) else none)))))
def f_L_accounts (pc : Nat) : Option En := if pc < 214 then (if pc < 99 then (if pc < 42 then (if pc < 20 then (if pc < 7 then (if pc < 3 then (if pc < 1 then (if pc = 0 then some (.iconst 0, 1, 0, 0, 0, 0) else none) else (if pc < 2 then (if pc = 1 then some (.istore_n 1, 1, 0, 0, 0, 0) else none) else (if pc = 2 then some (.iconst 0, 1, 0, 0, 0, 0) else none))) else (if pc < 5 then (if pc < 4 then (if pc = 3 then some (.istore_n 2, 1, 0, 0, 0, 0) else none) else (if pc = 4 then some (.iconst 0, 1, 0, 0, 0, 0) else none)) else (if pc < 6 then (if pc = 5 then some (.istore_n 3, 1, 0, 0, 0, 0) else none) else (if pc = 6 then some (.iload_n 3, 1, 0, 0, 0, 0) else none)))) else (if pc < 14 then (if pc < 12 then (if pc < 9 then (if pc = 7 then some (.bipush 6, 2, 0, 0, 0, 0) else none) else (if pc = 9 then some (.if_icmp .ge 89, 3, 98, 0, 0, 0) else none)) else (if pc < 13 then (if pc = 12 then some (.iload_n 1, 1, 0, 0, 0, 0) else none) else (if pc = 13 then some (.aload_n 0, 1, 0, 0, 0, 0) else none))) else (if pc < 16 then (if pc < 15 then (if pc = 14 then some (.iload_n 3, 1, 0, 0, 0, 0) else none) else (if pc = 15 then some (.iconst 0, 1, 0, 0, 0, 0) else none)) else (if pc < 19 then (if pc = 16 then some (.invokevirtual 19, 3, 78, 2, 562, 0) else none) else (if pc = 19 then some (.iadd, 1, 0, 0, 0, 0) else none))))) else (if pc < 31 then (if pc < 24 then (if pc < 22 then (if pc < 21 then (if pc = 20 then some (.istore_n 1, 1, 0, 0, 0, 0) else none) else (if pc = 21 then some (.iload_n 2, 1, 0, 0, 0, 0) else none)) else (if pc < 23 then (if pc = 22 then some (.aload_n 0, 1, 0, 0, 0, 0) else none) else (if pc = 23 then some (.iload_n 3, 1, 0, 0, 0, 0) else none))) else (if pc < 29 then (if pc < 26 then (if pc = 24 then some (.bipush 7, 2, 0, 0, 0, 0) else none) else (if pc = 26 then some (.invokevirtual 19, 3, 78, 2, 562, 0) else none)) else (if pc < 30 then (if pc = 29 then some (.iadd, 1, 0, 0, 0, 0) else none) else (if pc = 30 then some (.istore_n 2, 1, 0, 0, 0, 0) else none)))) else (if pc < 37 then (if pc < 33 then (if pc < 32 then (if pc = 31 then some (.aload_n 0, 1, 0, 0, 0, 0) else none) else (if pc = 32 then some (.iload_n 3, 1, 0, 0, 0, 0) else none)) else (if pc < 34 then (if pc = 33 then some (.iconst 0, 1, 0, 0, 0, 0) else none) else (if pc = 34 then some (.invokevirtual 19, 3, 78, 2, 562, 0) else none))) else (if pc < 40 then (if pc < 39 then (if pc = 37 then some (.bipush 10, 2, 0, 0, 0, 0) else none) else (if pc = 39 then some (.aload_n 0, 1, 0, 0, 0, 0) else none)) else (if pc < 41 then (if pc = 40 then some (.iload_n 3, 1, 0, 0, 0, 0) else none) else (if pc = 41 then some (.iconst 1, 1, 0, 0, 0, 0) else none)))))) else (if pc < 68 then (if pc < 55 then (if pc < 49 then (if pc < 45 then (if pc = 42 then some (.invokevirtual 19, 3, 78, 2, 562, 0) else none) else (if pc < 46 then (if pc = 45 then some (.imul, 1, 0, 0, 0, 0) else none) else (if pc = 46 then some (.if_icmp .ne 44, 3, 90, 0, 0, 0) else none))) else (if pc < 52 then (if pc < 51 then (if pc = 49 then some (.bipush 10, 2, 0, 0, 0, 0) else none) else (if pc = 51 then some (.aload_n 0, 1, 0, 0, 0, 0) else none)) else (if pc < 53 then (if pc = 52 then some (.iload_n 3, 1, 0, 0, 0, 0) else none) else (if pc = 53 then some (.bipush 7, 2, 0, 0, 0, 0) else none)))) else (if pc < 62 then (if pc < 59 then (if pc < 58 then (if pc = 55 then some (.invokevirtual 19, 3, 78, 2, 562, 0) else none) else (if pc = 58 then some (.imul, 1, 0, 0, 0, 0) else none)) else (if pc < 61 then (if pc = 59 then some (.bipush 9, 2, 0, 0, 0, 0) else none) else (if pc = 61 then some (.aload_n 0, 1, 0, 0, 0, 0) else none))) else (if pc < 64 then (if pc < 63 then (if pc = 62 then some (.iload_n 3, 1, 0, 0, 0, 0) else none) else (if pc = 63 then some (.iconst 0, 1, 0, 0, 0, 0) else none)) else (if pc < 67 then (if pc = 64 then some (.invokevirtual 19, 3, 78, 2, 562, 0) else none) else (if pc = 67 then some (.imul, 1, 0, 0, 0, 0) else none))))) else (if pc < 82 then (if pc < 74 then (if pc < 72 then (if pc < 71 then (if pc = 68 then some (.if_icmp .gt 22, 3, 90, 0, 0, 0) else none) else (if pc = 71 then some (.aload_n 0, 1, 0, 0, 0, 0) else none)) else (if pc < 73 then (if pc = 72 then some (.iload_n 3, 1, 0, 0, 0, 0) else none) else (if pc = 73 then some (.iconst 2, 1, 0, 0, 0, 0) else none))) else (if pc < 80 then (if pc < 77 then (if pc = 74 then some (.invokevirtual 19, 3, 78, 2, 562, 0) else none) else (if pc = 77 then some (.ifCond .ne 15, 3, 92, 0, 0, 0) else none)) else (if pc < 81 then (if pc = 80 then some (.aload_n 0, 1, 0, 0, 0, 0) else none) else (if pc = 81 then some (.iload_n 3, 1, 0, 0, 0, 0) else none)))) else (if pc < 91 then (if pc < 87 then (if pc < 84 then (if pc = 82 then some (.bipush 7, 2, 0, 0, 0, 0) else none) else (if pc = 84 then some (.invokevirtual 19, 3, 78, 2, 562, 0) else none)) else (if pc < 90 then (if pc = 87 then some (.ifCond .eq 5, 3, 92, 0, 0, 0) else none) else (if pc = 90 then some (.iconst 0, 1, 0, 0, 0, 0) else none))) else (if pc < 95 then (if pc < 92 then (if pc = 91 then some (.ireturn, 1, 0, 0, 0, 0) else none) else (if pc = 92 then some (.iinc 3 1, 3, 0, 0, 0, 0) else none)) else (if pc < 98 then (if pc = 95 then some (.goto (-89), 3, 6, 0, 0, 0) else none) else (if pc = 98 then some (.iconst 0, 1, 0, 0, 0, 0) else none))))))) else (if pc < 151 then (if pc < 124 then (if pc < 109 then (if pc < 103 then (if pc < 100 then (if pc = 99 then some (.istore_n 3, 1, 0, 0, 0, 0) else none) else (if pc < 101 then (if pc = 100 then some (.iconst 0, 1, 0, 0, 0, 0) else none) else (if pc = 101 then some (.istore 4, 2, 0, 0, 0, 0) else none))) else (if pc < 106 then (if pc < 104 then (if pc = 103 then some (.iconst 0, 1, 0, 0, 0, 0) else none) else (if pc = 104 then some (.istore 5, 2, 0, 0, 0, 0) else none)) else (if pc < 107 then (if pc = 106 then some (.iconst 0, 1, 0, 0, 0, 0) else none) else (if pc = 107 then some (.istore 6, 2, 0, 0, 0, 0) else none)))) else (if pc < 116 then (if pc < 112 then (if pc < 111 then (if pc = 109 then some (.iload 6, 2, 0, 0, 0, 0) else none) else (if pc = 111 then some (.iconst 3, 1, 0, 0, 0, 0) else none)) else (if pc < 115 then (if pc = 112 then some (.if_icmp .ge 154, 3, 266, 0, 0, 0) else none) else (if pc = 115 then some (.iload_n 3, 1, 0, 0, 0, 0) else none))) else (if pc < 119 then (if pc < 117 then (if pc = 116 then some (.aload_n 0, 1, 0, 0, 0, 0) else none) else (if pc = 117 then some (.iload 6, 2, 0, 0, 0, 0) else none)) else (if pc < 121 then (if pc = 119 then some (.bipush 6, 2, 0, 0, 0, 0) else none) else (if pc = 121 then some (.invokevirtual 15, 3, 79, 2, 548, 0) else none))))) else (if pc < 137 then (if pc < 129 then (if pc < 126 then (if pc < 125 then (if pc = 124 then some (.iadd, 1, 0, 0, 0, 0) else none) else (if pc = 125 then some (.istore_n 3, 1, 0, 0, 0, 0) else none)) else (if pc < 128 then (if pc = 126 then some (.iload 4, 2, 0, 0, 0, 0) else none) else (if pc = 128 then some (.aload_n 0, 1, 0, 0, 0, 0) else none))) else (if pc < 133 then (if pc < 131 then (if pc = 129 then some (.iload 6, 2, 0, 0, 0, 0) else none) else (if pc = 131 then some (.bipush 7, 2, 0, 0, 0, 0) else none)) else (if pc < 136 then (if pc = 133 then some (.invokevirtual 15, 3, 79, 2, 548, 0) else none) else (if pc = 136 then some (.iadd, 1, 0, 0, 0, 0) else none)))) else (if pc < 144 then (if pc < 141 then (if pc < 139 then (if pc = 137 then some (.istore 4, 2, 0, 0, 0, 0) else none) else (if pc = 139 then some (.iload 5, 2, 0, 0, 0, 0) else none)) else (if pc < 142 then (if pc = 141 then some (.aload_n 0, 1, 0, 0, 0, 0) else none) else (if pc = 142 then some (.iload 6, 2, 0, 0, 0, 0) else none))) else (if pc < 148 then (if pc < 145 then (if pc = 144 then some (.iconst 0, 1, 0, 0, 0, 0) else none) else (if pc = 145 then some (.invokevirtual 15, 3, 79, 2, 548, 0) else none)) else (if pc < 149 then (if pc = 148 then some (.iadd, 1, 0, 0, 0, 0) else none) else (if pc = 149 then some (.istore 5, 2, 0, 0, 0, 0) else none)))))) else (if pc < 181 then (if pc < 163 then (if pc < 155 then (if pc < 152 then (if pc = 151 then some (.aload_n 0, 1, 0, 0, 0, 0) else none) else (if pc < 154 then (if pc = 152 then some (.iload 6, 2, 0, 0, 0, 0) else none) else (if pc = 154 then some (.iconst 5, 1, 0, 0, 0, 0) else none))) else (if pc < 159 then (if pc < 158 then (if pc = 155 then some (.invokevirtual 15, 3, 79, 2, 548, 0) else none) else (if pc = 158 then some (.aload_n 0, 1, 0, 0, 0, 0) else none)) else (if pc < 161 then (if pc = 159 then some (.iload 6, 2, 0, 0, 0, 0) else none) else (if pc = 161 then some (.bipush 7, 2, 0, 0, 0, 0) else none)))) else (if pc < 172 then (if pc < 169 then (if pc < 166 then (if pc = 163 then some (.invokevirtual 15, 3, 79, 2, 548, 0) else none) else (if pc = 166 then some (.if_icmp .lt 92, 3, 258, 0, 0, 0) else none)) else (if pc < 170 then (if pc = 169 then some (.aload_n 0, 1, 0, 0, 0, 0) else none) else (if pc = 170 then some (.iload 6, 2, 0, 0, 0, 0) else none))) else (if pc < 177 then (if pc < 174 then (if pc = 172 then some (.bipush 8, 2, 0, 0, 0, 0) else none) else (if pc = 174 then some (.invokevirtual 15, 3, 79, 2, 548, 0) else none)) else (if pc < 180 then (if pc = 177 then some (.ifCond .ne 7, 3, 184, 0, 0, 0) else none) else (if pc = 180 then some (.iconst 1, 1, 0, 0, 0, 0) else none))))) else (if pc < 197 then (if pc < 188 then (if pc < 185 then (if pc < 184 then (if pc = 181 then some (.goto 4, 3, 185, 0, 0, 0) else none) else (if pc = 184 then some (.iconst 0, 1, 0, 0, 0, 0) else none)) else (if pc < 186 then (if pc = 185 then some (.aload_n 0, 1, 0, 0, 0, 0) else none) else (if pc = 186 then some (.iload 6, 2, 0, 0, 0, 0) else none))) else (if pc < 193 then (if pc < 190 then (if pc = 188 then some (.bipush 9, 2, 0, 0, 0, 0) else none) else (if pc = 190 then some (.invokevirtual 15, 3, 79, 2, 548, 0) else none)) else (if pc < 196 then (if pc = 193 then some (.ifCond .ne 7, 3, 200, 0, 0, 0) else none) else (if pc = 196 then some (.iconst 1, 1, 0, 0, 0, 0) else none)))) else (if pc < 205 then (if pc < 201 then (if pc < 200 then (if pc = 197 then some (.goto 4, 3, 201, 0, 0, 0) else none) else (if pc = 200 then some (.iconst 0, 1, 0, 0, 0, 0) else none)) else (if pc < 204 then (if pc = 201 then some (.if_icmp .ne 57, 3, 258, 0, 0, 0) else none) else (if pc = 204 then some (.aload_n 0, 1, 0, 0, 0, 0) else none))) else (if pc < 208 then (if pc < 207 then (if pc = 205 then some (.iload 6, 2, 0, 0, 0, 0) else none) else (if pc = 207 then some (.iconst 3, 1, 0, 0, 0, 0) else none)) else (if pc < 211 then (if pc = 208 then some (.invokevirtual 15, 3, 79, 2, 548, 0) else none) else (if pc = 211 then some (.ifCond .lt 7, 3, 218, 0, 0, 0) else none)))))))) else (if pc < 327 then (if pc < 272 then (if pc < 241 then (if pc < 226 then (if pc < 219 then (if pc < 215 then (if pc = 214 then some (.iconst 1, 1, 0, 0, 0, 0) else none) else (if pc < 218 then (if pc = 215 then some (.goto 4, 3, 219, 0, 0, 0) else none) else (if pc = 218 then some (.iconst 0, 1, 0, 0, 0, 0) else none))) else (if pc < 222 then (if pc < 220 then (if pc = 219 then some (.aload_n 0, 1, 0, 0, 0, 0) else none) else (if pc = 220 then some (.iload 6, 2, 0, 0, 0, 0) else none)) else (if pc < 223 then (if pc = 222 then some (.iconst 2, 1, 0, 0, 0, 0) else none) else (if pc = 223 then some (.invokevirtual 15, 3, 79, 2, 548, 0) else none)))) else (if pc < 234 then (if pc < 230 then (if pc < 227 then (if pc = 226 then some (.iconst 1, 1, 0, 0, 0, 0) else none) else (if pc = 227 then some (.if_icmp .ne 7, 3, 234, 0, 0, 0) else none)) else (if pc < 231 then (if pc = 230 then some (.iconst 1, 1, 0, 0, 0, 0) else none) else (if pc = 231 then some (.goto 4, 3, 235, 0, 0, 0) else none))) else (if pc < 238 then (if pc < 235 then (if pc = 234 then some (.iconst 0, 1, 0, 0, 0, 0) else none) else (if pc = 235 then some (.if_icmp .ne 23, 3, 258, 0, 0, 0) else none)) else (if pc < 239 then (if pc = 238 then some (.aload_n 0, 1, 0, 0, 0, 0) else none) else (if pc = 239 then some (.iload 6, 2, 0, 0, 0, 0) else none))))) else (if pc < 258 then (if pc < 249 then (if pc < 245 then (if pc < 242 then (if pc = 241 then some (.iconst 2, 1, 0, 0, 0, 0) else none) else (if pc = 242 then some (.invokevirtual 15, 3, 79, 2, 548, 0) else none)) else (if pc < 248 then (if pc = 245 then some (.ifCond .ne 15, 3, 260, 0, 0, 0) else none) else (if pc = 248 then some (.aload_n 0, 1, 0, 0, 0, 0) else none))) else (if pc < 252 then (if pc < 251 then (if pc = 249 then some (.iload 6, 2, 0, 0, 0, 0) else none) else (if pc = 251 then some (.iconst 4, 1, 0, 0, 0, 0) else none)) else (if pc < 255 then (if pc = 252 then some (.invokevirtual 15, 3, 79, 2, 548, 0) else none) else (if pc = 255 then some (.ifCond .eq 5, 3, 260, 0, 0, 0) else none)))) else (if pc < 266 then (if pc < 260 then (if pc < 259 then (if pc = 258 then some (.iconst 0, 1, 0, 0, 0, 0) else none) else (if pc = 259 then some (.ireturn, 1, 0, 0, 0, 0) else none)) else (if pc < 263 then (if pc = 260 then some (.iinc 6 1, 3, 0, 0, 0, 0) else none) else (if pc = 263 then some (.goto (-154), 3, 109, 0, 0, 0) else none))) else (if pc < 268 then (if pc < 267 then (if pc = 266 then some (.aload_n 0, 1, 0, 0, 0, 0) else none) else (if pc = 267 then some (.iconst 0, 1, 0, 0, 0, 0) else none)) else (if pc < 269 then (if pc = 268 then some (.iconst 0, 1, 0, 0, 0, 0) else none) else (if pc = 269 then some (.invokevirtual 15, 3, 79, 2, 548, 0) else none)))))) else (if pc < 298 then (if pc < 283 then (if pc < 275 then (if pc < 273 then (if pc = 272 then some (.aload_n 0, 1, 0, 0, 0, 0) else none) else (if pc < 274 then (if pc = 273 then some (.iconst 1, 1, 0, 0, 0, 0) else none) else (if pc = 274 then some (.iconst 0, 1, 0, 0, 0, 0) else none))) else (if pc < 281 then (if pc < 278 then (if pc = 275 then some (.invokevirtual 15, 3, 79, 2, 548, 0) else none) else (if pc = 278 then some (.if_icmp .ge 12, 3, 290, 0, 0, 0) else none)) else (if pc < 282 then (if pc = 281 then some (.aload_n 0, 1, 0, 0, 0, 0) else none) else (if pc = 282 then some (.iconst 0, 1, 0, 0, 0, 0) else none)))) else (if pc < 291 then (if pc < 287 then (if pc < 284 then (if pc = 283 then some (.iconst 0, 1, 0, 0, 0, 0) else none) else (if pc = 284 then some (.invokevirtual 15, 3, 79, 2, 548, 0) else none)) else (if pc < 290 then (if pc = 287 then some (.goto 9, 3, 296, 0, 0, 0) else none) else (if pc = 290 then some (.aload_n 0, 1, 0, 0, 0, 0) else none))) else (if pc < 293 then (if pc < 292 then (if pc = 291 then some (.iconst 1, 1, 0, 0, 0, 0) else none) else (if pc = 292 then some (.iconst 0, 1, 0, 0, 0, 0) else none)) else (if pc < 296 then (if pc = 293 then some (.invokevirtual 15, 3, 79, 2, 548, 0) else none) else (if pc = 296 then some (.istore 6, 2, 0, 0, 0, 0) else none))))) else (if pc < 311 then (if pc < 304 then (if pc < 300 then (if pc < 299 then (if pc = 298 then some (.aload_n 0, 1, 0, 0, 0, 0) else none) else (if pc = 299 then some (.iconst 2, 1, 0, 0, 0, 0) else none)) else (if pc < 301 then (if pc = 300 then some (.iconst 0, 1, 0, 0, 0, 0) else none) else (if pc = 301 then some (.invokevirtual 15, 3, 79, 2, 548, 0) else none))) else (if pc < 309 then (if pc < 306 then (if pc = 304 then some (.iload 6, 2, 0, 0, 0, 0) else none) else (if pc = 306 then some (.if_icmp .ge 12, 3, 318, 0, 0, 0) else none)) else (if pc < 310 then (if pc = 309 then some (.aload_n 0, 1, 0, 0, 0, 0) else none) else (if pc = 310 then some (.iconst 2, 1, 0, 0, 0, 0) else none)))) else (if pc < 320 then (if pc < 315 then (if pc < 312 then (if pc = 311 then some (.iconst 0, 1, 0, 0, 0, 0) else none) else (if pc = 312 then some (.invokevirtual 15, 3, 79, 2, 548, 0) else none)) else (if pc < 318 then (if pc = 315 then some (.goto 5, 3, 320, 0, 0, 0) else none) else (if pc = 318 then some (.iload 6, 2, 0, 0, 0, 0) else none))) else (if pc < 323 then (if pc < 322 then (if pc = 320 then some (.istore 6, 2, 0, 0, 0, 0) else none) else (if pc = 322 then some (.aload_n 0, 1, 0, 0, 0, 0) else none)) else (if pc < 324 then (if pc = 323 then some (.iconst 1, 1, 0, 0, 0, 0) else none) else (if pc = 324 then some (.invokevirtual 9, 3, 80, 1, 486, 0) else none))))))) else (if pc < 387 then (if pc < 356 then (if pc < 343 then (if pc < 333 then (if pc < 330 then (if pc = 327 then some (.ifCond .ne 16, 3, 343, 0, 0, 0) else none) else (if pc < 331 then (if pc = 330 then some (.aload_n 0, 1, 0, 0, 0, 0) else none) else (if pc = 331 then some (.bipush 8, 2, 0, 0, 0, 0) else none))) else (if pc < 339 then (if pc < 336 then (if pc = 333 then some (.invokevirtual 9, 3, 80, 1, 486, 0) else none) else (if pc = 336 then some (.ifCond .ne 7, 3, 343, 0, 0, 0) else none)) else (if pc < 340 then (if pc = 339 then some (.iconst 1, 1, 0, 0, 0, 0) else none) else (if pc = 340 then some (.goto 4, 3, 344, 0, 0, 0) else none)))) else (if pc < 348 then (if pc < 346 then (if pc < 344 then (if pc = 343 then some (.iconst 0, 1, 0, 0, 0, 0) else none) else (if pc = 344 then some (.istore 7, 2, 0, 0, 0, 0) else none)) else (if pc < 347 then (if pc = 346 then some (.iload_n 1, 1, 0, 0, 0, 0) else none) else (if pc = 347 then some (.aload_n 0, 1, 0, 0, 0, 0) else none))) else (if pc < 352 then (if pc < 349 then (if pc = 348 then some (.iconst 4, 1, 0, 0, 0, 0) else none) else (if pc = 349 then some (.invokevirtual 9, 3, 80, 1, 486, 0) else none)) else (if pc < 355 then (if pc = 352 then some (.if_icmp .ne 93, 3, 445, 0, 0, 0) else none) else (if pc = 355 then some (.iload_n 3, 1, 0, 0, 0, 0) else none))))) else (if pc < 371 then (if pc < 364 then (if pc < 358 then (if pc < 357 then (if pc = 356 then some (.aload_n 0, 1, 0, 0, 0, 0) else none) else (if pc = 357 then some (.iconst 2, 1, 0, 0, 0, 0) else none)) else (if pc < 361 then (if pc = 358 then some (.invokevirtual 9, 3, 80, 1, 486, 0) else none) else (if pc = 361 then some (.if_icmp .ne 84, 3, 445, 0, 0, 0) else none))) else (if pc < 367 then (if pc < 366 then (if pc = 364 then some (.iload 4, 2, 0, 0, 0, 0) else none) else (if pc = 366 then some (.aload_n 0, 1, 0, 0, 0, 0) else none)) else (if pc < 368 then (if pc = 367 then some (.iconst 5, 1, 0, 0, 0, 0) else none) else (if pc = 368 then some (.invokevirtual 9, 3, 80, 1, 486, 0) else none)))) else (if pc < 379 then (if pc < 376 then (if pc < 374 then (if pc = 371 then some (.if_icmp .ne 74, 3, 445, 0, 0, 0) else none) else (if pc = 374 then some (.iload 5, 2, 0, 0, 0, 0) else none)) else (if pc < 377 then (if pc = 376 then some (.aload_n 0, 1, 0, 0, 0, 0) else none) else (if pc = 377 then some (.bipush 10, 2, 0, 0, 0, 0) else none))) else (if pc < 385 then (if pc < 382 then (if pc = 379 then some (.invokevirtual 9, 3, 80, 1, 486, 0) else none) else (if pc = 382 then some (.if_icmp .ne 63, 3, 445, 0, 0, 0) else none)) else (if pc < 386 then (if pc = 385 then some (.aload_n 0, 1, 0, 0, 0, 0) else none) else (if pc = 386 then some (.iconst 1, 1, 0, 0, 0, 0) else none)))))) else (if pc < 415 then (if pc < 403 then (if pc < 395 then (if pc < 391 then (if pc < 390 then (if pc = 387 then some (.invokevirtual 22, 3, 81, 1, 584, 0) else none) else (if pc = 390 then some (.aload_n 0, 1, 0, 0, 0, 0) else none)) else (if pc < 392 then (if pc = 391 then some (.iconst 0, 1, 0, 0, 0, 0) else none) else (if pc = 392 then some (.invokevirtual 22, 3, 81, 1, 584, 0) else none))) else (if pc < 399 then (if pc < 398 then (if pc = 395 then some (.if_icmp .ne 50, 3, 445, 0, 0, 0) else none) else (if pc = 398 then some (.aload_n 0, 1, 0, 0, 0, 0) else none)) else (if pc < 400 then (if pc = 399 then some (.iconst 0, 1, 0, 0, 0, 0) else none) else (if pc = 400 then some (.invokevirtual 22, 3, 81, 1, 584, 0) else none)))) else (if pc < 409 then (if pc < 405 then (if pc < 404 then (if pc = 403 then some (.iload_n 3, 1, 0, 0, 0, 0) else none) else (if pc = 404 then some (.aload_n 0, 1, 0, 0, 0, 0) else none)) else (if pc < 406 then (if pc = 405 then some (.iconst 3, 1, 0, 0, 0, 0) else none) else (if pc = 406 then some (.invokevirtual 9, 3, 80, 1, 486, 0) else none))) else (if pc < 413 then (if pc < 410 then (if pc = 409 then some (.isub, 1, 0, 0, 0, 0) else none) else (if pc = 410 then some (.if_icmp .ne 35, 3, 445, 0, 0, 0) else none)) else (if pc < 414 then (if pc = 413 then some (.aload_n 0, 1, 0, 0, 0, 0) else none) else (if pc = 414 then some (.aload_n 0, 1, 0, 0, 0, 0) else none))))) else (if pc < 433 then (if pc < 424 then (if pc < 419 then (if pc < 418 then (if pc = 415 then some (.invokevirtual 26, 3, 85, 0, 592, 0) else none) else (if pc = 418 then some (.iconst 0, 1, 0, 0, 0, 0) else none)) else (if pc < 422 then (if pc = 419 then some (.invokevirtual 15, 3, 79, 2, 548, 0) else none) else (if pc = 422 then some (.iload 6, 2, 0, 0, 0, 0) else none))) else (if pc < 429 then (if pc < 427 then (if pc = 424 then some (.if_icmp .ne 21, 3, 445, 0, 0, 0) else none) else (if pc = 427 then some (.iload 7, 2, 0, 0, 0, 0) else none)) else (if pc < 432 then (if pc = 429 then some (.ifCond .eq 12, 3, 441, 0, 0, 0) else none) else (if pc = 432 then some (.aload_n 0, 1, 0, 0, 0, 0) else none)))) else (if pc < 441 then (if pc < 437 then (if pc < 434 then (if pc = 433 then some (.iconst 1, 1, 0, 0, 0, 0) else none) else (if pc = 434 then some (.invokevirtual 22, 3, 81, 1, 584, 0) else none)) else (if pc < 438 then (if pc = 437 then some (.iload_n 2, 1, 0, 0, 0, 0) else none) else (if pc = 438 then some (.if_icmp .gt 7, 3, 445, 0, 0, 0) else none))) else (if pc < 445 then (if pc < 442 then (if pc = 441 then some (.iconst 1, 1, 0, 0, 0, 0) else none) else (if pc = 442 then some (.goto 4, 3, 446, 0, 0, 0) else none)) else (if pc < 446 then (if pc = 445 then some (.iconst 0, 1, 0, 0, 0, 0) else none) else (if pc = 446 then some (.ireturn, 1, 0, 0, 0, 0) else none))))))))
def f_L_tickets (pc : Nat) : Option En := if pc < 70 then (if pc < 35 then (if pc < 16 then (if pc < 6 then (if pc < 2 then (if pc < 1 then (if pc = 0 then some (.iload_n 1, 1, 0, 0, 0, 0) else none) else (if pc = 1 then some (.istore_n 2, 1, 0, 0, 0, 0) else none)) else (if pc < 3 then (if pc = 2 then some (.iload_n 2, 1, 0, 0, 0, 0) else none) else (if pc < 4 then (if pc = 3 then some (.iload_n 1, 1, 0, 0, 0, 0) else none) else (if pc = 4 then some (.bipush 30, 2, 0, 0, 0, 0) else none)))) else (if pc < 11 then (if pc < 7 then (if pc = 6 then some (.iadd, 1, 0, 0, 0, 0) else none) else (if pc < 10 then (if pc = 7 then some (.if_icmp .ge 145, 3, 152, 0, 0, 0) else none) else (if pc = 10 then some (.aload_n 0, 1, 0, 0, 0, 0) else none))) else (if pc < 12 then (if pc = 11 then some (.iload_n 2, 1, 0, 0, 0, 0) else none) else (if pc < 13 then (if pc = 12 then some (.iconst 3, 1, 0, 0, 0, 0) else none) else (if pc = 13 then some (.invokevirtual 30, 3, 77, 2, 473, 0) else none))))) else (if pc < 25 then (if pc < 19 then (if pc < 17 then (if pc = 16 then some (.istore_n 3, 1, 0, 0, 0, 0) else none) else (if pc < 18 then (if pc = 17 then some (.aload_n 0, 1, 0, 0, 0, 0) else none) else (if pc = 18 then some (.iload_n 2, 1, 0, 0, 0, 0) else none))) else (if pc < 20 then (if pc = 19 then some (.iconst 4, 1, 0, 0, 0, 0) else none) else (if pc < 23 then (if pc = 20 then some (.invokevirtual 30, 3, 77, 2, 473, 0) else none) else (if pc = 23 then some (.istore 4, 2, 0, 0, 0, 0) else none)))) else (if pc < 28 then (if pc < 26 then (if pc = 25 then some (.aload_n 0, 1, 0, 0, 0, 0) else none) else (if pc < 27 then (if pc = 26 then some (.iload_n 2, 1, 0, 0, 0, 0) else none) else (if pc = 27 then some (.iconst 5, 1, 0, 0, 0, 0) else none))) else (if pc < 31 then (if pc = 28 then some (.invokevirtual 30, 3, 77, 2, 473, 0) else none) else (if pc < 33 then (if pc = 31 then some (.istore 5, 2, 0, 0, 0, 0) else none) else (if pc = 33 then some (.iload 5, 2, 0, 0, 0, 0) else none)))))) else (if pc < 49 then (if pc < 42 then (if pc < 39 then (if pc < 36 then (if pc = 35 then some (.iconst 1, 1, 0, 0, 0, 0) else none) else (if pc < 37 then (if pc = 36 then some (.iand, 1, 0, 0, 0, 0) else none) else (if pc = 37 then some (.iload 5, 2, 0, 0, 0, 0) else none))) else (if pc < 40 then (if pc = 39 then some (.iconst 1, 1, 0, 0, 0, 0) else none) else (if pc < 41 then (if pc = 40 then some (.ishr, 1, 0, 0, 0, 0) else none) else (if pc = 41 then some (.iconst 1, 1, 0, 0, 0, 0) else none)))) else (if pc < 46 then (if pc < 43 then (if pc = 42 then some (.iand, 1, 0, 0, 0, 0) else none) else (if pc < 44 then (if pc = 43 then some (.iadd, 1, 0, 0, 0, 0) else none) else (if pc = 44 then some (.iload 5, 2, 0, 0, 0, 0) else none))) else (if pc < 47 then (if pc = 46 then some (.iconst 2, 1, 0, 0, 0, 0) else none) else (if pc < 48 then (if pc = 47 then some (.ishr, 1, 0, 0, 0, 0) else none) else (if pc = 48 then some (.iconst 1, 1, 0, 0, 0, 0) else none))))) else (if pc < 59 then (if pc < 53 then (if pc < 50 then (if pc = 49 then some (.iand, 1, 0, 0, 0, 0) else none) else (if pc < 51 then (if pc = 50 then some (.iadd, 1, 0, 0, 0, 0) else none) else (if pc = 51 then some (.istore 6, 2, 0, 0, 0, 0) else none))) else (if pc < 54 then (if pc = 53 then some (.iload_n 3, 1, 0, 0, 0, 0) else none) else (if pc < 56 then (if pc = 54 then some (.iload 6, 2, 0, 0, 0, 0) else none) else (if pc = 56 then some (.if_icmp .gt 59, 3, 115, 0, 0, 0) else none)))) else (if pc < 65 then (if pc < 61 then (if pc = 59 then some (.iload 4, 2, 0, 0, 0, 0) else none) else (if pc < 62 then (if pc = 61 then some (.iload_n 3, 1, 0, 0, 0, 0) else none) else (if pc = 62 then some (.if_icmp .lt 7, 3, 69, 0, 0, 0) else none))) else (if pc < 66 then (if pc = 65 then some (.iload_n 3, 1, 0, 0, 0, 0) else none) else (if pc < 69 then (if pc = 66 then some (.ifCond .gt 49, 3, 115, 0, 0, 0) else none) else (if pc = 69 then some (.iload_n 3, 1, 0, 0, 0, 0) else none))))))) else (if pc < 115 then (if pc < 92 then (if pc < 82 then (if pc < 75 then (if pc < 73 then (if pc = 70 then some (.ifCond .le 12, 3, 82, 0, 0, 0) else none) else (if pc < 74 then (if pc = 73 then some (.aload_n 0, 1, 0, 0, 0, 0) else none) else (if pc = 74 then some (.iload_n 2, 1, 0, 0, 0, 0) else none))) else (if pc < 76 then (if pc = 75 then some (.iconst 2, 1, 0, 0, 0, 0) else none) else (if pc < 79 then (if pc = 76 then some (.invokevirtual 30, 3, 77, 2, 473, 0) else none) else (if pc = 79 then some (.ifCond .eq 36, 3, 115, 0, 0, 0) else none)))) else (if pc < 85 then (if pc < 83 then (if pc = 82 then some (.aload_n 0, 1, 0, 0, 0, 0) else none) else (if pc < 84 then (if pc = 83 then some (.iload_n 2, 1, 0, 0, 0, 0) else none) else (if pc = 84 then some (.iconst 0, 1, 0, 0, 0, 0) else none))) else (if pc < 88 then (if pc = 85 then some (.invokevirtual 30, 3, 77, 2, 473, 0) else none) else (if pc < 91 then (if pc = 88 then some (.ifCond .ne 12, 3, 100, 0, 0, 0) else none) else (if pc = 91 then some (.aload_n 0, 1, 0, 0, 0, 0) else none))))) else (if pc < 102 then (if pc < 97 then (if pc < 93 then (if pc = 92 then some (.iload_n 2, 1, 0, 0, 0, 0) else none) else (if pc < 94 then (if pc = 93 then some (.iconst 1, 1, 0, 0, 0, 0) else none) else (if pc = 94 then some (.invokevirtual 30, 3, 77, 2, 473, 0) else none))) else (if pc < 100 then (if pc = 97 then some (.ifCond .ne 18, 3, 115, 0, 0, 0) else none) else (if pc < 101 then (if pc = 100 then some (.aload_n 0, 1, 0, 0, 0, 0) else none) else (if pc = 101 then some (.iload_n 2, 1, 0, 0, 0, 0) else none)))) else (if pc < 108 then (if pc < 104 then (if pc = 102 then some (.bipush 8, 2, 0, 0, 0, 0) else none) else (if pc < 107 then (if pc = 104 then some (.invokevirtual 30, 3, 77, 2, 473, 0) else none) else (if pc = 107 then some (.iconst 1, 1, 0, 0, 0, 0) else none))) else (if pc < 111 then (if pc = 108 then some (.if_icmp .ne 9, 3, 117, 0, 0, 0) else none) else (if pc < 112 then (if pc = 111 then some (.iload_n 3, 1, 0, 0, 0, 0) else none) else (if pc = 112 then some (.ifCond .ne 5, 3, 117, 0, 0, 0) else none)))))) else (if pc < 134 then (if pc < 123 then (if pc < 118 then (if pc < 116 then (if pc = 115 then some (.iconst 0, 1, 0, 0, 0, 0) else none) else (if pc < 117 then (if pc = 116 then some (.ireturn, 1, 0, 0, 0, 0) else none) else (if pc = 117 then some (.aload_n 0, 1, 0, 0, 0, 0) else none))) else (if pc < 119 then (if pc = 118 then some (.iload_n 2, 1, 0, 0, 0, 0) else none) else (if pc < 120 then (if pc = 119 then some (.iconst 2, 1, 0, 0, 0, 0) else none) else (if pc = 120 then some (.invokevirtual 30, 3, 77, 2, 473, 0) else none)))) else (if pc < 129 then (if pc < 126 then (if pc = 123 then some (.ifCond .le 23, 3, 146, 0, 0, 0) else none) else (if pc < 128 then (if pc = 126 then some (.iload 5, 2, 0, 0, 0, 0) else none) else (if pc = 128 then some (.iconst 1, 1, 0, 0, 0, 0) else none))) else (if pc < 130 then (if pc = 129 then some (.iand, 1, 0, 0, 0, 0) else none) else (if pc < 131 then (if pc = 130 then some (.iconst 1, 1, 0, 0, 0, 0) else none) else (if pc = 131 then some (.if_icmp .ne 15, 3, 146, 0, 0, 0) else none))))) else (if pc < 144 then (if pc < 137 then (if pc < 135 then (if pc = 134 then some (.aload_n 0, 1, 0, 0, 0, 0) else none) else (if pc < 136 then (if pc = 135 then some (.iconst 0, 1, 0, 0, 0, 0) else none) else (if pc = 136 then some (.iload_n 2, 1, 0, 0, 0, 0) else none))) else (if pc < 140 then (if pc = 137 then some (.invokevirtual 33, 3, 82, 2, 609, 0) else none) else (if pc < 141 then (if pc = 140 then some (.iconst 4, 1, 0, 0, 0, 0) else none) else (if pc = 141 then some (.if_icmp .eq 5, 3, 146, 0, 0, 0) else none)))) else (if pc < 149 then (if pc < 145 then (if pc = 144 then some (.iconst 0, 1, 0, 0, 0, 0) else none) else (if pc < 146 then (if pc = 145 then some (.ireturn, 1, 0, 0, 0, 0) else none) else (if pc = 146 then some (.iinc 2 1, 3, 0, 0, 0, 0) else none))) else (if pc < 152 then (if pc = 149 then some (.goto (-147), 3, 2, 0, 0, 0) else none) else (if pc < 153 then (if pc = 152 then some (.iconst 1, 1, 0, 0, 0, 0) else none) else (if pc = 153 then some (.ireturn, 1, 0, 0, 0, 0) else none)))))))
def f_L_act (pc : Nat) : Option En := if pc < 66 then (if pc < 31 then (if pc < 14 then (if pc < 8 then (if pc < 2 then (if pc < 1 then (if pc = 0 then some (.iload_n 1, 1, 0, 0, 0, 0) else none) else (if pc = 1 then some (.iconst 3, 1, 0, 0, 0, 0) else none)) else (if pc < 3 then (if pc = 2 then some (.ishr, 1, 0, 0, 0, 0) else none) else (if pc < 5 then (if pc = 3 then some (.bipush 16, 2, 0, 0, 0, 0) else none) else (if pc = 5 then some (.invokestatic 36, 3, 97, 2, 541, 0) else none)))) else (if pc < 10 then (if pc < 9 then (if pc = 8 then some (.istore_n 3, 1, 0, 0, 0, 0) else none) else (if pc = 9 then some (.iload_n 2, 1, 0, 0, 0, 0) else none)) else (if pc < 11 then (if pc = 10 then some (.iconst 2, 1, 0, 0, 0, 0) else none) else (if pc < 12 then (if pc = 11 then some (.ishr, 1, 0, 0, 0, 0) else none) else (if pc = 12 then some (.bipush 30, 2, 0, 0, 0, 0) else none))))) else (if pc < 23 then (if pc < 19 then (if pc < 17 then (if pc = 14 then some (.invokestatic 36, 3, 97, 2, 541, 0) else none) else (if pc = 17 then some (.bipush 100, 2, 0, 0, 0, 0) else none)) else (if pc < 20 then (if pc = 19 then some (.iload_n 2, 1, 0, 0, 0, 0) else none) else (if pc < 22 then (if pc = 20 then some (.bipush 8, 2, 0, 0, 0, 0) else none) else (if pc = 22 then some (.ishr, 1, 0, 0, 0, 0) else none)))) else (if pc < 27 then (if pc < 24 then (if pc = 23 then some (.iconst 2, 1, 0, 0, 0, 0) else none) else (if pc = 24 then some (.invokestatic 36, 3, 97, 2, 541, 0) else none)) else (if pc < 28 then (if pc = 27 then some (.imul, 1, 0, 0, 0, 0) else none) else (if pc < 29 then (if pc = 28 then some (.iadd, 1, 0, 0, 0, 0) else none) else (if pc = 29 then some (.istore 4, 2, 0, 0, 0, 0) else none)))))) else (if pc < 49 then (if pc < 39 then (if pc < 33 then (if pc < 32 then (if pc = 31 then some (.iload_n 3, 1, 0, 0, 0, 0) else none) else (if pc = 32 then some (.iconst 4, 1, 0, 0, 0, 0) else none)) else (if pc < 36 then (if pc = 33 then some (.if_icmp .ge 10, 3, 43, 0, 0, 0) else none) else (if pc < 37 then (if pc = 36 then some (.aload_n 0, 1, 0, 0, 0, 0) else none) else (if pc = 37 then some (.iload 4, 2, 0, 0, 0, 0) else none)))) else (if pc < 43 then (if pc < 42 then (if pc = 39 then some (.invokevirtual 41, 3, 70, 1, 229, 0) else none) else (if pc = 42 then some (.ireturn, 1, 0, 0, 0, 0) else none)) else (if pc < 44 then (if pc = 43 then some (.iload_n 3, 1, 0, 0, 0, 0) else none) else (if pc < 46 then (if pc = 44 then some (.bipush 6, 2, 0, 0, 0, 0) else none) else (if pc = 46 then some (.if_icmp .ge 13, 3, 59, 0, 0, 0) else none))))) else (if pc < 58 then (if pc < 51 then (if pc < 50 then (if pc = 49 then some (.aload_n 0, 1, 0, 0, 0, 0) else none) else (if pc = 50 then some (.iload_n 2, 1, 0, 0, 0, 0) else none)) else (if pc < 52 then (if pc = 51 then some (.iconst 2, 1, 0, 0, 0, 0) else none) else (if pc < 55 then (if pc = 52 then some (.invokestatic 36, 3, 97, 2, 541, 0) else none) else (if pc = 55 then some (.invokevirtual 44, 3, 71, 1, 617, 0) else none)))) else (if pc < 60 then (if pc < 59 then (if pc = 58 then some (.ireturn, 1, 0, 0, 0, 0) else none) else (if pc = 59 then some (.iload_n 3, 1, 0, 0, 0, 0) else none)) else (if pc < 62 then (if pc = 60 then some (.bipush 12, 2, 0, 0, 0, 0) else none) else (if pc < 65 then (if pc = 62 then some (.if_icmp .ge 15, 3, 77, 0, 0, 0) else none) else (if pc = 65 then some (.aload_n 0, 1, 0, 0, 0, 0) else none))))))) else (if pc < 103 then (if pc < 84 then (if pc < 76 then (if pc < 68 then (if pc < 67 then (if pc = 66 then some (.iload_n 2, 1, 0, 0, 0, 0) else none) else (if pc = 67 then some (.iconst 3, 1, 0, 0, 0, 0) else none)) else (if pc < 71 then (if pc = 68 then some (.invokestatic 36, 3, 97, 2, 541, 0) else none) else (if pc < 73 then (if pc = 71 then some (.iload 4, 2, 0, 0, 0, 0) else none) else (if pc = 73 then some (.invokevirtual 47, 3, 72, 2, 300, 0) else none)))) else (if pc < 78 then (if pc < 77 then (if pc = 76 then some (.ireturn, 1, 0, 0, 0, 0) else none) else (if pc = 77 then some (.iload_n 3, 1, 0, 0, 0, 0) else none)) else (if pc < 80 then (if pc = 78 then some (.bipush 12, 2, 0, 0, 0, 0) else none) else (if pc < 83 then (if pc = 80 then some (.if_icmp .ne 38, 3, 118, 0, 0, 0) else none) else (if pc = 83 then some (.iload_n 2, 1, 0, 0, 0, 0) else none))))) else (if pc < 94 then (if pc < 88 then (if pc < 85 then (if pc = 84 then some (.iconst 3, 1, 0, 0, 0, 0) else none) else (if pc = 85 then some (.invokestatic 36, 3, 97, 2, 541, 0) else none)) else (if pc < 91 then (if pc = 88 then some (.ifCond .ne 12, 3, 100, 0, 0, 0) else none) else (if pc < 92 then (if pc = 91 then some (.aload_n 0, 1, 0, 0, 0, 0) else none) else (if pc = 92 then some (.iload 4, 2, 0, 0, 0, 0) else none)))) else (if pc < 100 then (if pc < 97 then (if pc = 94 then some (.invokevirtual 50, 3, 73, 1, 634, 0) else none) else (if pc = 97 then some (.goto 20, 3, 117, 0, 0, 0) else none)) else (if pc < 101 then (if pc = 100 then some (.aload_n 0, 1, 0, 0, 0, 0) else none) else (if pc < 102 then (if pc = 101 then some (.iload_n 2, 1, 0, 0, 0, 0) else none) else (if pc = 102 then some (.iconst 3, 1, 0, 0, 0, 0) else none)))))) else (if pc < 120 then (if pc < 111 then (if pc < 107 then (if pc < 106 then (if pc = 103 then some (.invokestatic 36, 3, 97, 2, 541, 0) else none) else (if pc = 106 then some (.iload_n 2, 1, 0, 0, 0, 0) else none)) else (if pc < 108 then (if pc = 107 then some (.iconst 4, 1, 0, 0, 0, 0) else none) else (if pc < 109 then (if pc = 108 then some (.ishr, 1, 0, 0, 0, 0) else none) else (if pc = 109 then some (.bipush 6, 2, 0, 0, 0, 0) else none)))) else (if pc < 117 then (if pc < 114 then (if pc = 111 then some (.invokestatic 36, 3, 97, 2, 541, 0) else none) else (if pc = 114 then some (.invokevirtual 53, 3, 75, 2, 646, 0) else none)) else (if pc < 118 then (if pc = 117 then some (.ireturn, 1, 0, 0, 0, 0) else none) else (if pc < 119 then (if pc = 118 then some (.aload_n 0, 1, 0, 0, 0, 0) else none) else (if pc = 119 then some (.iconst 1, 1, 0, 0, 0, 0) else none))))) else (if pc < 129 then (if pc < 122 then (if pc < 121 then (if pc = 120 then some (.iload_n 2, 1, 0, 0, 0, 0) else none) else (if pc = 121 then some (.iload_n 3, 1, 0, 0, 0, 0) else none)) else (if pc < 124 then (if pc = 122 then some (.bipush 15, 2, 0, 0, 0, 0) else none) else (if pc < 127 then (if pc = 124 then some (.if_icmp .ne 8, 3, 132, 0, 0, 0) else none) else (if pc = 127 then some (.bipush 30, 2, 0, 0, 0, 0) else none)))) else (if pc < 136 then (if pc < 132 then (if pc = 129 then some (.goto 4, 3, 133, 0, 0, 0) else none) else (if pc < 133 then (if pc = 132 then some (.iconst 4, 1, 0, 0, 0, 0) else none) else (if pc = 133 then some (.invokestatic 36, 3, 97, 2, 541, 0) else none))) else (if pc < 137 then (if pc = 136 then some (.iadd, 1, 0, 0, 0, 0) else none) else (if pc < 140 then (if pc = 137 then some (.invokevirtual 56, 3, 74, 1, 315, 0) else none) else (if pc = 140 then some (.ireturn, 1, 0, 0, 0, 0) else none)))))))
def mC (m pc : Nat) : Option En := if m < 51 then (if m < 25 then (if m < 12 then (if m < 6 then (if m < 3 then (if m < 1 then (if m = 0 then f_L_law pc else none) else (if m < 2 then (if m = 1 then f_X0_copyFrom pc else none) else (if m = 2 then f_X0_open pc else none))) else (if m < 4 then (if m = 3 then f_X0_takeFirst pc else none) else (if m < 5 then (if m = 4 then f_X1_copyFrom pc else none) else (if m = 5 then f_X1_isDrawn pc else none)))) else (if m < 9 then (if m < 7 then (if m = 6 then f_X1_pool pc else none) else (if m < 8 then (if m = 7 then f_X1_allPools pc else none) else (if m = 8 then f_X1_addWinner pc else none))) else (if m < 10 then (if m = 9 then f_X1_winnersOf pc else none) else (if m < 11 then (if m = 10 then f_X1_prize pc else none) else (if m = 11 then f_X1_allPrizes pc else none))))) else (if m < 18 then (if m < 15 then (if m < 13 then (if m = 12 then f_X1_tell pc else none) else (if m < 14 then (if m = 13 then f_X2_copyFrom pc else none) else (if m = 14 then f_X2_send pc else none))) else (if m < 16 then (if m = 15 then f_X2_isDue pc else none) else (if m < 17 then (if m = 16 then f_X2_kindOfMessage pc else none) else (if m = 17 then f_X2_windowOfMessage pc else none)))) else (if m < 21 then (if m < 19 then (if m = 18 then f_X2_ticketOfMessage pc else none) else (if m < 20 then (if m = 19 then f_X2_dropDue pc else none) else (if m = 20 then f_X3_copyFrom pc else none))) else (if m < 23 then (if m < 22 then (if m = 21 then f_X3_sellTicket pc else none) else (if m = 22 then f_X3_drawByLot pc else none)) else (if m < 24 then (if m = 23 then f_X3_classOfNumber pc else none) else (if m = 24 then f_X3_addCustomer pc else none)))))) else (if m < 38 then (if m < 31 then (if m < 28 then (if m < 26 then (if m = 25 then f_X3_removeCustomers pc else none) else (if m < 27 then (if m = 26 then f_X3_passTicks pc else none) else (if m = 27 then f_X3_changeSetting pc else none))) else (if m < 29 then (if m = 28 then f_X3_runTicks pc else none) else (if m < 30 then (if m = 29 then f_X3_bringMail pc else none) else (if m = 30 then f_X3_takeMark pc else none)))) else (if m < 34 then (if m < 32 then (if m = 31 then f_X3_takeQuestion pc else none) else (if m < 33 then (if m = 32 then f_X3_takeYes pc else none) else (if m = 33 then f_X3_takeNo pc else none))) else (if m < 36 then (if m < 35 then (if m = 34 then f_X3_serve pc else none) else (if m = 35 then f_X3_reasonAgainst pc else none)) else (if m < 37 then (if m = 36 then f_X3_pay pc else none) else (if m = 37 then f_X3_settleFirstDispute pc else none))))) else (if m < 44 then (if m < 41 then (if m < 39 then (if m = 38 then f_X3_prizeOf pc else none) else (if m < 40 then (if m = 39 then f_X3_coinsByTickets pc else none) else (if m = 40 then f_X3_coinsByWindows pc else none))) else (if m < 42 then (if m = 41 then f_X3_tellTicket pc else none) else (if m < 43 then (if m = 42 then f_X3_tellTotal pc else none) else (if m = 43 then f_X5_copyFrom pc else none)))) else (if m < 47 then (if m < 45 then (if m = 44 then f_X5_has pc else none) else (if m < 46 then (if m = 45 then f_X5_add pc else none) else (if m = 46 then f_X5_remove pc else none))) else (if m < 49 then (if m < 48 then (if m = 47 then f_X5_classOfTicket pc else none) else (if m = 48 then f_X5_windowBits pc else none)) else (if m < 50 then (if m = 49 then f_X5_marksOf pc else none) else (if m = 50 then f_X5_notePayment pc else none))))))) else (if m < 77 then (if m < 64 then (if m < 57 then (if m < 54 then (if m < 52 then (if m = 51 then f_X5_firstPayer pc else none) else (if m < 53 then (if m = 52 then f_X6_copyFrom pc else none) else (if m = 53 then f_X6_append pc else none))) else (if m < 55 then (if m = 54 then f_X6_takeFirst pc else none) else (if m < 56 then (if m = 55 then f_X6_removeAll pc else none) else (if m = 56 then f_X6_customersWith pc else none)))) else (if m < 60 then (if m < 58 then (if m = 57 then f_X6_isWaiting pc else none) else (if m < 59 then (if m = 58 then f_X6_waitsTooLong pc else none) else (if m = 59 then f_X6_startWaiting pc else none))) else (if m < 62 then (if m < 61 then (if m = 60 then f_X6_countWaiting pc else none) else (if m = 61 then f_X6_sendAway pc else none)) else (if m < 63 then (if m = 62 then f_X6_addPayment pc else none) else (if m = 63 then f_X6_payments pc else none))))) else (if m < 70 then (if m < 67 then (if m < 65 then (if m = 64 then f_X6_allCoins pc else none) else (if m < 66 then (if m = 65 then f_X6_allSentAway pc else none) else (if m = 66 then f_X6_allCustomers pc else none))) else (if m < 68 then (if m = 67 then f_X6_sum pc else none) else (if m < 69 then (if m = 68 then f_X6_shortestRow pc else none) else (if m = 69 then f_X6_tell pc else none)))) else (if m < 73 then (if m < 71 then (if m = 70 then f_X7_sell pc else none) else (if m < 72 then (if m = 71 then f_X7_draw pc else none) else (if m = 72 then f_X7_come pc else none))) else (if m < 75 then (if m < 74 then (if m = 73 then f_X7_leave pc else none) else (if m = 74 then f_X7_pass pc else none)) else (if m < 76 then (if m = 75 then f_X7_set pc else none) else (if m = 76 then f_X7_undo pc else none)))))) else (if m < 90 then (if m < 83 then (if m < 80 then (if m < 78 then (if m = 77 then f_X7_ticketOf pc else none) else (if m < 79 then (if m = 78 then f_X7_drawOf pc else none) else (if m = 79 then f_X7_windowOf pc else none))) else (if m < 81 then (if m = 80 then f_X7_count pc else none) else (if m < 82 then (if m = 81 then f_X7_paid pc else none) else (if m = 82 then f_X7_why pc else none)))) else (if m < 86 then (if m < 84 then (if m = 83 then f_X7_ifRule pc else none) else (if m < 85 then (if m = 84 then f_X7_bestRule pc else none) else (if m = 85 then f_X7_shortest pc else none))) else (if m < 88 then (if m < 87 then (if m = 86 then f_X7_beginAct pc else none) else (if m = 87 then f_X7_endAct pc else none)) else (if m < 89 then (if m = 88 then f_X7_record pc else none) else (if m = 89 then f_X7_runWithRule pc else none))))) else (if m < 96 then (if m < 93 then (if m < 91 then (if m = 90 then f_X7_isTicket pc else none) else (if m < 92 then (if m = 91 then f_X7_isDraw pc else none) else (if m = 92 then f_X7_isWindow pc else none))) else (if m < 94 then (if m = 93 then f_X7_areTicks pc else none) else (if m < 95 then (if m = 94 then f_X7_isSetting pc else none) else (if m = 95 then f_J6_bitCount_0f7a4 pc else none)))) else (if m < 99 then (if m < 97 then (if m = 96 then f_L_cell pc else none) else (if m < 98 then (if m = 97 then f_L_low pc else none) else (if m = 98 then f_L_tell pc else none))) else (if m < 101 then (if m < 100 then (if m = 99 then f_L_same pc else none) else (if m = 100 then f_L_accounts pc else none)) else (if m < 102 then (if m = 101 then f_L_tickets pc else none) else (if m = 102 then f_L_act pc else none)))))))
def mZ (m : Nat) : Nat := if m < 51 then (if m < 25 then (if m < 12 then (if m < 6 then (if m < 3 then (if m < 1 then (if m = 0 then 472 else 472) else (if m < 2 then (if m = 1 then 32 else 472) else (if m = 2 then 40 else 472))) else (if m < 4 then (if m = 3 then 59 else 472) else (if m < 5 then (if m = 4 then 46 else 472) else (if m = 5 then 27 else 472)))) else (if m < 9 then (if m < 7 then (if m = 6 then 24 else 472) else (if m < 8 then (if m = 7 then 30 else 472) else (if m = 8 then 37 else 472))) else (if m < 10 then (if m = 9 then 35 else 472) else (if m < 11 then (if m = 10 then 62 else 472) else (if m = 11 then 33 else 472))))) else (if m < 18 then (if m < 15 then (if m < 13 then (if m = 12 then 112 else 472) else (if m < 14 then (if m = 13 then 41 else 472) else (if m = 14 then 52 else 472))) else (if m < 16 then (if m = 15 then 16 else 472) else (if m < 17 then (if m = 16 then 13 else 472) else (if m = 17 then 13 else 472)))) else (if m < 21 then (if m < 19 then (if m = 18 then 11 else 472) else (if m < 20 then (if m = 19 then 61 else 472) else (if m = 20 then 110 else 472))) else (if m < 23 then (if m < 22 then (if m = 21 then 74 else 472) else (if m = 22 then 131 else 472)) else (if m < 24 then (if m = 23 then 37 else 472) else (if m = 24 then 26 else 472)))))) else (if m < 38 then (if m < 31 then (if m < 28 then (if m < 26 then (if m = 25 then 29 else 472) else (if m < 27 then (if m = 26 then 48 else 472) else (if m = 27 then 35 else 472))) else (if m < 29 then (if m = 28 then 57 else 472) else (if m < 30 then (if m = 29 then 147 else 472) else (if m = 30 then 58 else 472)))) else (if m < 34 then (if m < 32 then (if m = 31 then 84 else 472) else (if m < 33 then (if m = 32 then 43 else 472) else (if m = 33 then 34 else 472))) else (if m < 36 then (if m < 35 then (if m = 34 then 146 else 472) else (if m = 35 then 134 else 472)) else (if m < 37 then (if m = 36 then 119 else 472) else (if m = 37 then 129 else 472))))) else (if m < 44 then (if m < 41 then (if m < 39 then (if m = 38 then 20 else 472) else (if m < 40 then (if m = 39 then 59 else 472) else (if m = 40 then 13 else 472))) else (if m < 42 then (if m = 41 then 177 else 472) else (if m < 43 then (if m = 42 then 148 else 472) else (if m = 43 then 33 else 472)))) else (if m < 47 then (if m < 45 then (if m = 44 then 28 else 472) else (if m < 46 then (if m = 45 then 22 else 472) else (if m = 46 then 24 else 472))) else (if m < 49 then (if m < 48 then (if m = 47 then 27 else 472) else (if m = 48 then 27 else 472)) else (if m < 50 then (if m = 49 then 36 else 472) else (if m = 50 then 49 else 472))))))) else (if m < 77 then (if m < 64 then (if m < 57 then (if m < 54 then (if m < 52 then (if m = 51 then 34 else 472) else (if m < 53 then (if m = 52 then 114 else 472) else (if m = 53 then 41 else 472))) else (if m < 55 then (if m = 54 then 74 else 472) else (if m < 56 then (if m = 55 then 103 else 472) else (if m = 56 then 56 else 472)))) else (if m < 60 then (if m < 58 then (if m = 57 then 17 else 472) else (if m < 59 then (if m = 58 then 27 else 472) else (if m = 59 then 15 else 472))) else (if m < 62 then (if m < 61 then (if m = 60 then 35 else 472) else (if m = 61 then 18 else 472)) else (if m < 63 then (if m = 62 then 21 else 472) else (if m = 63 then 8 else 472))))) else (if m < 70 then (if m < 67 then (if m < 65 then (if m = 64 then 8 else 472) else (if m < 66 then (if m = 65 then 8 else 472) else (if m = 66 then 8 else 472))) else (if m < 68 then (if m = 67 then 23 else 472) else (if m < 69 then (if m = 68 then 87 else 472) else (if m = 69 then 158 else 472)))) else (if m < 73 then (if m < 71 then (if m = 70 then 13 else 472) else (if m < 72 then (if m = 71 then 13 else 472) else (if m = 72 then 14 else 472))) else (if m < 75 then (if m < 74 then (if m = 73 then 13 else 472) else (if m = 74 then 13 else 472)) else (if m < 76 then (if m = 75 then 14 else 472) else (if m = 76 then 61 else 472)))))) else (if m < 90 then (if m < 83 then (if m < 80 then (if m < 78 then (if m = 77 then 19 else 472) else (if m < 79 then (if m = 78 then 22 else 472) else (if m = 79 then 41 else 472))) else (if m < 81 then (if m = 80 then 88 else 472) else (if m < 82 then (if m = 81 then 22 else 472) else (if m = 82 then 26 else 472)))) else (if m < 86 then (if m < 84 then (if m = 83 then 127 else 472) else (if m < 85 then (if m = 84 then 75 else 472) else (if m = 85 then 11 else 472))) else (if m < 88 then (if m < 87 then (if m = 86 then 16 else 472) else (if m = 87 then 10 else 472)) else (if m < 89 then (if m = 88 then 94 else 472) else (if m = 89 then 34 else 472))))) else (if m < 96 then (if m < 93 then (if m < 91 then (if m = 90 then 17 else 472) else (if m < 92 then (if m = 91 then 16 else 472) else (if m = 92 then 15 else 472))) else (if m < 94 then (if m = 93 then 17 else 472) else (if m < 95 then (if m = 94 then 33 else 472) else (if m = 95 then 53 else 472)))) else (if m < 99 then (if m < 97 then (if m = 96 then 21 else 472) else (if m < 98 then (if m = 97 then 7 else 472) else (if m = 98 then 158 else 472))) else (if m < 101 then (if m < 100 then (if m = 99 then 27 else 472) else (if m = 100 then 447 else 472)) else (if m < 102 then (if m = 101 then 154 else 472) else (if m = 102 then 141 else 472)))))))
/-- cells by comp: tag (1 object, 2 int[], 3 char[], 4 Office[], 5 a static int[], 6 the script), class or length, kinds of the fields -/
def kT (c : Nat) : Nat := if c < 18 then (if c < 9 then (if c < 4 then (if c < 2 then (if c < 1 then (if c = 0 then 1 else 0) else (if c = 1 then 2 else 0)) else (if c < 3 then (if c = 2 then 1 else 0) else (if c = 3 then 2 else 0))) else (if c < 6 then (if c < 5 then (if c = 4 then 2 else 0) else (if c = 5 then 1 else 0)) else (if c < 7 then (if c = 6 then 2 else 0) else (if c < 8 then (if c = 7 then 2 else 0) else (if c = 8 then 2 else 0))))) else (if c < 13 then (if c < 11 then (if c < 10 then (if c = 9 then 1 else 0) else (if c = 10 then 2 else 0)) else (if c < 12 then (if c = 11 then 2 else 0) else (if c = 12 then 2 else 0))) else (if c < 15 then (if c < 14 then (if c = 13 then 2 else 0) else (if c = 14 then 2 else 0)) else (if c < 16 then (if c = 15 then 2 else 0) else (if c < 17 then (if c = 16 then 2 else 0) else (if c = 17 then 2 else 0)))))) else (if c < 27 then (if c < 22 then (if c < 20 then (if c < 19 then (if c = 18 then 1 else 0) else (if c = 19 then 2 else 0)) else (if c < 21 then (if c = 20 then 2 else 0) else (if c = 21 then 1 else 0))) else (if c < 24 then (if c < 23 then (if c = 22 then 2 else 0) else (if c = 23 then 1 else 0)) else (if c < 25 then (if c = 24 then 4 else 0) else (if c < 26 then (if c = 25 then 1 else 0) else (if c = 26 then 3 else 0))))) else (if c < 36 then (if c < 29 then (if c < 28 then (if c = 27 then 2 else 0) else (if c = 28 then 2 else 0)) else (if c < 30 then (if c = 29 then 3 else 0) else (if c = 30 then 2 else 0))) else (if c < 38 then (if c < 37 then (if c = 36 then 5 else 0) else (if c = 37 then 5 else 0)) else (if c < 39 then (if c = 38 then 5 else 0) else (if c < 40 then (if c = 39 then 5 else 0) else (if c = 40 then 6 else 0))))))
def kN (c : Nat) : Nat := if c < 18 then (if c < 9 then (if c < 4 then (if c < 2 then (if c < 1 then (if c = 0 then 3 else 0) else (if c = 1 then 3 else 0)) else (if c < 3 then (if c = 2 then 5 else 0) else (if c = 3 then 600 else 0))) else (if c < 6 then (if c < 5 then (if c = 4 then 600 else 0) else (if c = 5 then 1 else 0)) else (if c < 7 then (if c = 6 then 6 else 0) else (if c < 8 then (if c = 7 then 6 else 0) else (if c = 8 then 18 else 0))))) else (if c < 13 then (if c < 11 then (if c < 10 then (if c = 9 then 6 else 0) else (if c = 10 then 24 else 0)) else (if c < 12 then (if c = 11 then 3 else 0) else (if c = 12 then 3 else 0))) else (if c < 15 then (if c < 14 then (if c = 13 then 3 else 0) else (if c = 14 then 3 else 0)) else (if c < 16 then (if c = 15 then 3 else 0) else (if c < 17 then (if c = 16 then 3 else 0) else (if c = 17 then 3 else 0)))))) else (if c < 27 then (if c < 22 then (if c < 20 then (if c < 19 then (if c = 18 then 2 else 0) else (if c = 19 then 150 else 0)) else (if c < 21 then (if c = 20 then 150 else 0) else (if c = 21 then 0 else 0))) else (if c < 24 then (if c < 23 then (if c = 22 then 114 else 0) else (if c = 23 then 7 else 0)) else (if c < 25 then (if c = 24 then 4 else 0) else (if c < 26 then (if c = 25 then 4 else 0) else (if c = 26 then 20 else 0))))) else (if c < 36 then (if c < 29 then (if c < 28 then (if c = 27 then 20 else 0) else (if c = 28 then 20 else 0)) else (if c < 30 then (if c = 29 then 60 else 0) else (if c = 30 then 64 else 0))) else (if c < 38 then (if c < 37 then (if c = 36 then 3 else 0) else (if c = 37 then 3 else 0)) else (if c < 39 then (if c = 38 then 3 else 0) else (if c < 40 then (if c = 39 then 4 else 0) else (if c = 40 then 0 else 0))))))
def kL (c : Nat) : Int := if c < 18 then (if c < 9 then (if c < 4 then (if c < 2 then (if c < 1 then (if c = 0 then 0 else 0) else (if c = 1 then 3 else 0)) else (if c < 3 then (if c = 2 then 0 else 0) else (if c = 3 then 600 else 0))) else (if c < 6 then (if c < 5 then (if c = 4 then 600 else 0) else (if c = 5 then 0 else 0)) else (if c < 7 then (if c = 6 then 6 else 0) else (if c < 8 then (if c = 7 then 6 else 0) else (if c = 8 then 18 else 0))))) else (if c < 13 then (if c < 11 then (if c < 10 then (if c = 9 then 0 else 0) else (if c = 10 then 24 else 0)) else (if c < 12 then (if c = 11 then 3 else 0) else (if c = 12 then 3 else 0))) else (if c < 15 then (if c < 14 then (if c = 13 then 3 else 0) else (if c = 14 then 3 else 0)) else (if c < 16 then (if c = 15 then 3 else 0) else (if c < 17 then (if c = 16 then 3 else 0) else (if c = 17 then 3 else 0)))))) else (if c < 27 then (if c < 22 then (if c < 20 then (if c < 19 then (if c = 18 then 0 else 0) else (if c = 19 then 150 else 0)) else (if c < 21 then (if c = 20 then 150 else 0) else (if c = 21 then 0 else 0))) else (if c < 24 then (if c < 23 then (if c = 22 then 114 else 0) else (if c = 23 then 0 else 0)) else (if c < 25 then (if c = 24 then 4 else 0) else (if c < 26 then (if c = 25 then 0 else 0) else (if c = 26 then 20 else 0))))) else (if c < 36 then (if c < 29 then (if c < 28 then (if c = 27 then 20 else 0) else (if c = 28 then 20 else 0)) else (if c < 30 then (if c = 29 then 60 else 0) else (if c = 30 then 64 else 0))) else (if c < 38 then (if c < 37 then (if c = 36 then 3 else 0) else (if c = 37 then 3 else 0)) else (if c < 39 then (if c = 38 then 3 else 0) else (if c < 40 then (if c = 39 then 4 else 0) else (if c = 40 then 0 else 0))))))
def kF (c : Nat) : List Nat := if c < 18 then (if c < 9 then (if c < 4 then (if c < 2 then (if c < 1 then (if c = 0 then [0, 0, 11, 12, 15, 19, 28, 31, 0, 0, 0] else []) else (if c = 1 then [] else [])) else (if c < 3 then (if c = 2 then [13, 14] else []) else (if c = 3 then [] else []))) else (if c < 6 then (if c < 5 then (if c = 4 then [] else []) else (if c = 5 then [16, 17, 18] else [])) else (if c < 7 then (if c = 6 then [] else []) else (if c < 8 then (if c = 7 then [] else []) else (if c = 8 then [] else []))))) else (if c < 13 then (if c < 11 then (if c < 10 then (if c = 9 then [20, 21, 22, 23, 24, 25, 26, 27] else []) else (if c = 10 then [] else [])) else (if c < 12 then (if c = 11 then [] else []) else (if c = 12 then [] else []))) else (if c < 15 then (if c < 14 then (if c = 13 then [] else []) else (if c = 14 then [] else [])) else (if c < 16 then (if c = 15 then [] else []) else (if c < 17 then (if c = 16 then [] else []) else (if c = 17 then [] else [])))))) else (if c < 27 then (if c < 22 then (if c < 20 then (if c < 19 then (if c = 18 then [0, 29, 30] else []) else (if c = 19 then [] else [])) else (if c < 21 then (if c = 20 then [] else []) else (if c = 21 then [0, 0, 32] else []))) else (if c < 24 then (if c < 23 then (if c = 22 then [] else []) else (if c = 23 then [2, 2, 34, 0, 102, 1, 35] else [])) else (if c < 25 then (if c = 24 then [] else []) else (if c < 26 then (if c = 25 then [0, 0, 36, 37, 38, 39, 0] else []) else (if c = 26 then [] else []))))) else (if c < 36 then (if c < 29 then (if c < 28 then (if c = 27 then [] else []) else (if c = 28 then [] else [])) else (if c < 30 then (if c = 29 then [] else []) else (if c = 30 then [] else []))) else (if c < 38 then (if c < 37 then (if c = 36 then [] else []) else (if c = 37 then [] else [])) else (if c < 39 then (if c = 38 then [] else []) else (if c < 40 then (if c = 39 then [] else []) else (if c = 40 then [] else []))))))
def kK (al c : Nat) : Nat := if c < 23 then 7 else if c < 30 then 1 else if c = 30 then al else 0
def oT (c : Nat) : u_T := if c < 18 then (if c < 5 then (if c < 2 then (if c = 0 then TX3 else TX0) else (if c = 2 then TX5 else TX0)) else (if c < 9 then (if c = 5 then TX1 else TX0) else (if c = 9 then TX6 else TX0))) else (if c < 23 then (if c < 21 then (if c = 18 then TX2 else TX0) else (if c = 21 then TX0 else TX0)) else (if c < 25 then (if c = 23 then TX7 else TX0) else (if c = 25 then TX4 else TX0)))
def oR (c : Nat) : String := if c < 18 then (if c < 5 then (if c < 2 then (if c = 0 then RX3 else RX0) else (if c = 2 then RX5 else RX0)) else (if c < 9 then (if c = 5 then RX1 else RX0) else (if c = 9 then RX6 else RX0))) else (if c < 23 then (if c < 21 then (if c = 18 then RX2 else RX0) else (if c = 21 then RX0 else RX0)) else (if c < 25 then (if c = 23 then RX7 else RX0) else (if c = 25 then RX4 else RX0)))
def oTy (c : Nat) : Nat → FieldType := if c < 18 then (if c < 5 then (if c < 2 then (if c = 0 then tyX3 else tyX0) else (if c = 2 then tyX5 else tyX0)) else (if c < 9 then (if c = 5 then tyX1 else tyX0) else (if c = 9 then tyX6 else tyX0))) else (if c < 23 then (if c < 21 then (if c = 18 then tyX2 else tyX0) else (if c = 21 then tyX0 else tyX0)) else (if c < 25 then (if c = 23 then tyX7 else tyX0) else (if c = 25 then tyX4 else tyX0)))
def stN (c : Nat) : String := if c < 38 then (if c < 37 then (if c = 36 then "FIRST_SETTING" else "") else (if c = 37 then "LEAST_SETTING" else "")) else (if c < 39 then (if c = 38 then "MOST_SETTING" else "") else (if c = 39 then "SHARE_OF_CLASS" else ""))
end
section
/-! THE TABLES ARE TRUE: each entry is what decode reads, its links stand among the tables' words (head by hand, rows by gen.py) -/
def mO (m : Nat) : String := (mY m).cls
def wAt (i : Nat) (w : Jvm.Cond) : Bool := decide (lw_tbl[i]? = some w) && goodWord w
def wNt (i : Nat) (w : Jvm.Cond) : Bool := decide (lw_tbl[i]? = some w)
def iLen : Instr → Nat → Nat
  | .iload _, _ | .aload _, _ | .istore _, _ | .astore _, _ | .bipush _, _ | .ldc _, _ => 2
  | .sipush _, _ | .ldc_w _, _ | .iinc _ _, _ | .if_icmp _ _, _ | .ifCond _ _, _ | .goto _, _ | .getfield _, _ | .putfield _, _ | .getstatic _, _ | .invokevirtual _, _ | .invokestatic _, _ => 3
  | .tableswitch _ _ _ _, n => n
  | .lookupswitch _ _, n => n
  | .iload_n _, _ | .aload_n _, _ | .istore_n _, _ | .astore_n _, _ | .iconst _, _ | .iadd, _ | .isub, _ | .imul, _ | .idiv, _ | .irem, _ | .iand, _ | .ior, _ | .ixor, _ | .ishl, _ | .ishr, _ | .iushr, _ | .i2c, _ | .dup, _ | .dup2, _ | .pop, _ | .iaload, _ | .iastore, _ | .caload, _ | .castore, _ | .aaload, _ | .aastore, _ | .arraylength, _ | .ireturn, _ | .areturn, _ | .return_, _ => 1
  | _, n => n
def ckCall (mi r1 r2 : Nat) : Bool := decide (r2 + (if mS r1 = true then 0 else 1) ≤ mL r1) && decide (r1 < mN) && decide (0 < r1) && decide (mF r1 + 1 ≤ mF mi) && decide (8 + (mL r1 + 11) + mLo r1 ≤ mLo mi) && decide ((parseMethodDescriptor (mY r1).desc).map (fun d => d.parameters.length) = some r2)
def ckL (mi pc r1 r2 r3 r4 : Nat) : Instr → Bool
  | .getfield i => decide (kT r1 = 1) && decide (r1 < 36) && wAt r3 (.fieldLink (mO mi) i (oT r1 r2).1 (oT r1 r2).2.1 (oT r1 r2).2.2.1)
  | .putfield i => decide (kT r1 = 1) && decide (r1 < 36) && wAt r3 (.fieldLink (mO mi) i (oT r1 r2).1 (oT r1 r2).2.1 (oT r1 r2).2.2.1) && ((kF r1)[r2]?.all (fun q => decide (3 ≤ q)) || (!(oT r1 r2).2.2.2 &&
      ((decide ((kF r1)[r2]? = some 0) && decide (parseFieldDescriptor (oT r1 r2).2.2.1 = some .int)) || (decide ((kF r1)[r2]? = some 1) && decide (parseFieldDescriptor (oT r1 r2).2.2.1 = some .boolean)) || (decide ((kF r1)[r2]? = some 2) && decide (parseFieldDescriptor (oT r1 r2).2.2.1 = some (.object RX3))))))
  | .getstatic i => decide (36 ≤ r1) && decide (r1 < 40) && (if r4 = 0 then wAt r3 (.fieldLink (mO mi) i "TicketWindows" (stN r1) "[I") else decide (r4 = 1) && wNt r3 (.fieldLinkNest (mO mi) i "TicketWindows" (stN r1) "[I" "TicketWindows"))
  | .ldc i => wAt r3 (.constant (mO mi) i (Int32.ofInt r1))
  | .ldc_w i => wAt r3 (.constant (mO mi) i (Int32.ofInt r1))
  | .bipush n => decide ((Int8.ofInt n).toInt32 = Int32.ofInt n)
  | .sipush n => decide ((Int16.ofInt n).toInt32 = Int32.ofInt n)
  | .if_icmp _ o => decide ((pc : Int) + o = r1)
  | .ifCond _ o => decide ((pc : Int) + o = r1)
  | .goto o => decide ((pc : Int) + o = r1)
  | .tableswitch d lo hi os => decide (0 ≤ (pc : Int) + d) && os.toList.all (fun o => decide (0 ≤ (pc : Int) + o)) && decide (hi = lo + os.size - 1)
  | .lookupswitch d ps => decide (0 ≤ (pc : Int) + d) && ps.toList.all (fun o => decide (0 ≤ (pc : Int) + o.2)) && (ps.toList.zip (ps.toList.drop 1)).all (fun (a, next) => a.1 < next.1)
  | .invokevirtual i => ckCall mi r1 r2 && !(mS r1) && decide (r4 = 0) && wAt r3 (.methodLink (mO mi) i (mY r1))
  | .invokestatic i => if r1 = 9999 then wAt r3 (.methodLink (mO mi) i arraycopyName) && decide (1 ≤ mF mi) && decide (18 ≤ mLo mi)
      else ckCall mi r1 r2 && mS r1 && (if r4 = 0 then wAt r3 (.methodLink (mO mi) i (mY r1)) else decide (r4 = 1) && wNt r3 (.methodLinkNest (mO mi) i (mY r1) "TicketWindows"))
  | _ => true
def ckAt (mi pc : Nat) : Bool := match mC mi pc with
  | none => true
  | some (ins, len, r1, r2, r3, r4) => decide (decode (mB mi) pc = .ok (ins, iLen ins len)) && ckL mi pc r1 r2 r3 r4 ins
/-- of a method: its words -/
def ckM (m : Nat) : Bool := decide (m = 0) || (wAt (mP m).1 (.code (mY m) (mB m) (mL m) (mR m)) && (if mS m = true then wAt (mP m).2.1 (.static (mY m)) else wAt (mP m).2.1 (.instanceMethod (mY m)) && wAt (mP m).2.2.1 (.selects (mY m).cls (mY m) (mY m)) && decide (oR (mT m) = (mY m).cls) && decide (kT (mT m) = 1) && decide (mT m < 36)) &&
  wAt (mP m).2.2.2 (.initialized (mY m).cls) && plainName (mY m).cls && decide ((mY m).cls ≠ "java/lang/invoke/MethodHandle") && decide ((mY m).cls ≠ "java/lang/invoke/VarHandle"))
theorem ck_of {n mi pc : Nat} {a : Nat} (h : (List.range n).all (fun i => (List.range (mZ (a + i))).all (fun pc => ckAt (a + i) pc)) = true) (b : Nat) (h1 : a = b ∧ b ≤ mi) (h2 : mi < b + n) (hp : pc < mZ mi) : ckAt mi pc = true := by
  obtain ⟨rfl, h1⟩ := h1
  have h3 := List.all_eq_true.mp h (mi - a) (List.mem_range.mpr (by omega))
  have e : a + (mi - a) = mi := by omega
  rw [e] at h3
  exact List.all_eq_true.mp h3 pc (List.mem_range.mpr hp)
theorem cz_of {n mi : Nat} {a : Nat} (h : (List.range n).all (fun i => ckM (a + i)) = true) (b : Nat) (h1 : a = b ∧ b ≤ mi) (h2 : mi < b + n) : ckM mi = true := by
  obtain ⟨rfl, h1⟩ := h1
  have h3 := List.all_eq_true.mp h (mi - a) (List.mem_range.mpr (by omega))
  have e : a + (mi - a) = mi := by omega
  rw [e] at h3
  exact h3

theorem ck_0 : (List.range 10).all (fun i => (List.range (mZ (0 + i))).all (fun pc => ckAt (0 + i) pc)) = true := by decide +kernel
theorem cz_0 : (List.range 10).all (fun i => ckM (0 + i)) = true := by decide +kernel
theorem ck_1 : (List.range 10).all (fun i => (List.range (mZ (10 + i))).all (fun pc => ckAt (10 + i) pc)) = true := by decide +kernel
theorem cz_1 : (List.range 10).all (fun i => ckM (10 + i)) = true := by decide +kernel
theorem ck_2 : (List.range 10).all (fun i => (List.range (mZ (20 + i))).all (fun pc => ckAt (20 + i) pc)) = true := by decide +kernel
theorem cz_2 : (List.range 10).all (fun i => ckM (20 + i)) = true := by decide +kernel
theorem ck_3 : (List.range 10).all (fun i => (List.range (mZ (30 + i))).all (fun pc => ckAt (30 + i) pc)) = true := by decide +kernel
theorem cz_3 : (List.range 10).all (fun i => ckM (30 + i)) = true := by decide +kernel
theorem ck_4 : (List.range 10).all (fun i => (List.range (mZ (40 + i))).all (fun pc => ckAt (40 + i) pc)) = true := by decide +kernel
theorem cz_4 : (List.range 10).all (fun i => ckM (40 + i)) = true := by decide +kernel
theorem ck_5 : (List.range 10).all (fun i => (List.range (mZ (50 + i))).all (fun pc => ckAt (50 + i) pc)) = true := by decide +kernel
theorem cz_5 : (List.range 10).all (fun i => ckM (50 + i)) = true := by decide +kernel
theorem ck_6 : (List.range 10).all (fun i => (List.range (mZ (60 + i))).all (fun pc => ckAt (60 + i) pc)) = true := by decide +kernel
theorem cz_6 : (List.range 10).all (fun i => ckM (60 + i)) = true := by decide +kernel
theorem ck_7 : (List.range 10).all (fun i => (List.range (mZ (70 + i))).all (fun pc => ckAt (70 + i) pc)) = true := by decide +kernel
theorem cz_7 : (List.range 10).all (fun i => ckM (70 + i)) = true := by decide +kernel
theorem ck_8 : (List.range 10).all (fun i => (List.range (mZ (80 + i))).all (fun pc => ckAt (80 + i) pc)) = true := by decide +kernel
theorem cz_8 : (List.range 10).all (fun i => ckM (80 + i)) = true := by decide +kernel
theorem ck_9 : (List.range 10).all (fun i => (List.range (mZ (90 + i))).all (fun pc => ckAt (90 + i) pc)) = true := by decide +kernel
theorem cz_9 : (List.range 10).all (fun i => ckM (90 + i)) = true := by decide +kernel
theorem ck_10 : (List.range 3).all (fun i => (List.range (mZ (100 + i))).all (fun pc => ckAt (100 + i) pc)) = true := by decide +kernel
theorem cz_10 : (List.range 3).all (fun i => ckM (100 + i)) = true := by decide +kernel
theorem ck_all {mi pc : Nat} (h : mi < mN) (hp : pc < mZ mi) : ckAt mi pc = true := by
  have hm : mi < 103 := h
  rcases Nat.lt_or_ge mi 10 with g | g
  · exact ck_of ck_0 0 (by omega) (by omega) hp
  rcases Nat.lt_or_ge mi 20 with g | g
  · exact ck_of ck_1 10 (by omega) (by omega) hp
  rcases Nat.lt_or_ge mi 30 with g | g
  · exact ck_of ck_2 20 (by omega) (by omega) hp
  rcases Nat.lt_or_ge mi 40 with g | g
  · exact ck_of ck_3 30 (by omega) (by omega) hp
  rcases Nat.lt_or_ge mi 50 with g | g
  · exact ck_of ck_4 40 (by omega) (by omega) hp
  rcases Nat.lt_or_ge mi 60 with g | g
  · exact ck_of ck_5 50 (by omega) (by omega) hp
  rcases Nat.lt_or_ge mi 70 with g | g
  · exact ck_of ck_6 60 (by omega) (by omega) hp
  rcases Nat.lt_or_ge mi 80 with g | g
  · exact ck_of ck_7 70 (by omega) (by omega) hp
  rcases Nat.lt_or_ge mi 90 with g | g
  · exact ck_of ck_8 80 (by omega) (by omega) hp
  rcases Nat.lt_or_ge mi 100 with g | g
  · exact ck_of ck_9 90 (by omega) (by omega) hp
  · exact ck_of ck_10 100 (by omega) (by omega) hp
theorem cz_all {mi : Nat} (h : mi < mN) : ckM mi = true := by
  have hm : mi < 103 := h
  rcases Nat.lt_or_ge mi 10 with g | g
  · exact cz_of cz_0 0 (by omega) (by omega)
  rcases Nat.lt_or_ge mi 20 with g | g
  · exact cz_of cz_1 10 (by omega) (by omega)
  rcases Nat.lt_or_ge mi 30 with g | g
  · exact cz_of cz_2 20 (by omega) (by omega)
  rcases Nat.lt_or_ge mi 40 with g | g
  · exact cz_of cz_3 30 (by omega) (by omega)
  rcases Nat.lt_or_ge mi 50 with g | g
  · exact cz_of cz_4 40 (by omega) (by omega)
  rcases Nat.lt_or_ge mi 60 with g | g
  · exact cz_of cz_5 50 (by omega) (by omega)
  rcases Nat.lt_or_ge mi 70 with g | g
  · exact cz_of cz_6 60 (by omega) (by omega)
  rcases Nat.lt_or_ge mi 80 with g | g
  · exact cz_of cz_7 70 (by omega) (by omega)
  rcases Nat.lt_or_ge mi 90 with g | g
  · exact cz_of cz_8 80 (by omega) (by omega)
  rcases Nat.lt_or_ge mi 100 with g | g
  · exact cz_of cz_9 90 (by omega) (by omega)
  · exact cz_of cz_10 100 (by omega) (by omega)
end
section
/-! THE SMALL MACHINE: values are numbers (any Int stands for its Int32) and references (copy, comp); the heap is a function of copy, comp and place. -/
abbrev MV : Type := Int ⊕ (Nat × Nat)
abbrev Lc : Type := List (Option MV)
abbrev Hp : Type := Nat → Nat → Int → Int
abbrev inR (z : Int) : Prop := -2147483648 ≤ z ∧ z < 2147483648
def hu (S : Hp) (k c : Nat) (j v : Int) : Hp := fun k' c' j' => if k' = k ∧ c' = c ∧ j' = j then v else S k' c' j'
def hcp (S : Hp) (k1 c1 : Nat) (sp : Int) (k2 c2 : Nat) (dp n : Int) : Hp := fun k c j => if k = k2 ∧ c = c2 ∧ dp ≤ j ∧ j < dp + n then S k1 c1 (sp + (j - dp)) else S k c j
def bAnd (u v : Int) : Int := (Int32.ofInt u &&& Int32.ofInt v).toInt
def bOr (u v : Int) : Int := (Int32.ofInt u ||| Int32.ofInt v).toInt
def bXor (u v : Int) : Int := (Int32.ofInt u ^^^ Int32.ofInt v).toInt
/-- the static rows -/
def sv (c : Nat) (i : Int) : Int :=
  if c = 36 then (if i = 1 then 3 else if i = 2 then 12 else 0)
  else if c = 37 then (if i = 0 then 0 else 1)
  else if c = 38 then (if i = 0 then 2 else if i = 1 then 9 else 20)
  else (if i = 0 then 0 else if i = 1 then 40 else if i = 2 then 30 else 20)
def tgt (pc : Nat) (off : Int) : Nat := if 0 ≤ off then pc + off.toNat else pc - (-off).toNat
abbrev Rn : Type := Nat × Lc × List MV × Hp
abbrev Rs : Type := Rn ⊕ ((Nat × List MV × Rn) ⊕ (Option MV × Hp))
def rN (pc : Nat) (L : Lc) (st : List MV) (S : Hp) : Option Rs := some (.inl (pc, L, st, S))
def rC (m : Nat) (as : List MV) (pc : Nat) (L : Lc) (st : List MV) (S : Hp) : Option Rs := some (.inr (.inl (m, as, pc, L, st, S)))
def rR (v : Option MV) (S : Hp) : Option Rs := some (.inr (.inr (v, S)))
def tsw (L : Lc) (st : List MV) (S : Hp) (pc : Nat) (d z : Int) : Int → List Int → Option Rs
  | _, [] => rN (tgt pc d) L st S
  | c, o :: os => if z = c then rN (tgt pc o) L st S else tsw L st S pc d z (c + 1) os
def lsw (L : Lc) (st : List MV) (S : Hp) (pc : Nat) (d z : Int) : List (Int × Int) → Option Rs
  | [] => rN (tgt pc d) L st S
  | (k, o) :: os => if z = k then rN (tgt pc o) L st S else lsw L st S pc d z os
def c2 (t f : Option Rs) (u v : Int) : Jvm.ClassFile.Cond → Option Rs
  | .eq => if u = v then t else if inR u ∧ inR v then f else none
  | .ne => if u = v then f else if inR u ∧ inR v then t else none
  | .lt => if inR u ∧ inR v then (if u < v then t else f) else none
  | .ge => if inR u ∧ inR v then (if u < v then f else t) else none
  | .gt => if inR u ∧ inR v then (if v < u then t else f) else none
  | .le => if inR u ∧ inR v then (if v < u then f else t) else none
def gI (L : Lc) (i : Nat) (f : Int → Option Rs) : Option Rs := match L[i]? with
  | some (some (.inl z)) => f z
  | _ => none
def gA (L : Lc) (i : Nat) (f : Nat × Nat → Option Rs) : Option Rs := match L[i]? with
  | some (some (.inr z)) => f z
  | _ => none
def sI (L : Lc) (i : Nat) (st : List MV) (f : Lc → List MV → Option Rs) : Option Rs := match st with
  | .inl z :: st => if i < L.length then f (L.set i (some (.inl z))) st else none
  | _ => none
def sA (L : Lc) (i : Nat) (st : List MV) (f : Lc → List MV → Option Rs) : Option Rs := match st with
  | .inr z :: st => if i < L.length then f (L.set i (some (.inr z))) st else none
  | _ => none
def f4 : Fin 4 → Nat
  | 0 => 0
  | 1 => 1
  | 2 => 2
  | 3 => 3
theorem f4_val : ∀ i : Fin 4, f4 i = i.val := by decide
/-- a binary operation on numbers -/
def bi (st : List MV) (f : Int → Int → List MV → Option Rs) : Option Rs := match st with
  | .inl v :: .inl u :: st => f u v st
  | _ => none
def gF (k c j : Nat) (S : Hp) (f : MV → Option Rs) : Option Rs := match (kF c)[j]? with
  | none => none
  | some 0 => f (.inl (S k c j))
  | some 1 => f (.inl (S k c j))
  | some 2 => f (.inr ((S k c j).toNat, 0))
  | some q => if q < 100 then f (.inr (k, q - 10)) else f (.inr (q - 100, 0))
def pF (k c j : Nat) (S : Hp) (v : MV) (f : Hp → Option Rs) : Option Rs := match (kF c)[j]?, v with
  | some 0, .inl z => f (hu S k c j z)
  | some 1, .inl z => if z = 0 ∨ z = 1 then f (hu S k c j z) else none
  | some 2, .inr (q, 0) => f (hu S k c j q)
  | _, _ => none
def stI (mi pc r1 r2 : Nat) (L : Lc) (st : List MV) (S : Hp) : Instr → Option Rs
  | .iload_n i => gI L (f4 i) (fun z => rN (pc + 1) L (.inl z :: st) S)
  | .iload i => gI L i (fun z => rN (pc + 2) L (.inl z :: st) S)
  | .aload_n i => gA L (f4 i) (fun z => rN (pc + 1) L (.inr z :: st) S)
  | .aload i => gA L i (fun z => rN (pc + 2) L (.inr z :: st) S)
  | .istore_n i => sI L (f4 i) st (fun L st => rN (pc + 1) L st S)
  | .istore i => sI L i st (fun L st => rN (pc + 2) L st S)
  | .astore_n i => sA L (f4 i) st (fun L st => rN (pc + 1) L st S)
  | .astore i => sA L i st (fun L st => rN (pc + 2) L st S)
  | .iconst n => rN (pc + 1) L (.inl n :: st) S
  | .bipush n => rN (pc + 2) L (.inl n :: st) S
  | .sipush n => rN (pc + 3) L (.inl n :: st) S
  | .ldc _ => rN (pc + 2) L (.inl r1 :: st) S
  | .ldc_w _ => rN (pc + 3) L (.inl r1 :: st) S
  | .iadd => bi st (fun u v st => rN (pc + 1) L (.inl (u + v) :: st) S)
  | .isub => bi st (fun u v st => rN (pc + 1) L (.inl (u - v) :: st) S)
  | .imul => bi st (fun u v st => rN (pc + 1) L (.inl (u * v) :: st) S)
  | .idiv => bi st (fun u v st => if 0 ≤ u ∧ u < 2147483648 ∧ 0 < v ∧ v < 2147483648 then rN (pc + 1) L (.inl (u / v) :: st) S else none)
  | .irem => bi st (fun u v st => if 0 ≤ u ∧ u < 2147483648 ∧ 0 < v ∧ v < 2147483648 then rN (pc + 1) L (.inl (u % v) :: st) S else none)
  | .iand => bi st (fun u v st => rN (pc + 1) L (.inl (bAnd u v) :: st) S)
  | .ior => bi st (fun u v st => rN (pc + 1) L (.inl (bOr u v) :: st) S)
  | .ixor => bi st (fun u v st => rN (pc + 1) L (.inl (bXor u v) :: st) S)
  | .ishl => bi st (fun u v st => if 0 ≤ v ∧ v < 32 ∧ 0 ≤ u ∧ u * 2 ^ v.toNat < 2147483648 then rN (pc + 1) L (.inl (u * 2 ^ v.toNat) :: st) S else none)
  | .ishr => bi st (fun u v st => if 0 ≤ v ∧ v < 32 ∧ -2147483648 ≤ u ∧ u < 2147483648 then rN (pc + 1) L (.inl (u / 2 ^ v.toNat) :: st) S else none)
  | .iushr => bi st (fun u v st => if 0 ≤ v ∧ v < 32 ∧ 0 ≤ u ∧ u < 2147483648 then rN (pc + 1) L (.inl (u / 2 ^ v.toNat) :: st) S else none)
  | .iinc i n => gI L i (fun z => if i < L.length then rN (pc + 3) (L.set i (some (.inl (z + n)))) st S else none)
  | .i2c => match st with
    | .inl z :: st => rN (pc + 1) L (.inl (z % 65536) :: st) S
    | _ => none
  | .if_icmp c _ => bi st (fun u v st => c2 (rN r1 L st S) (rN (pc + 3) L st S) u v c)
  | .ifCond c _ => match st with
    | .inl z :: st => c2 (rN r1 L st S) (rN (pc + 3) L st S) z 0 c
    | _ => none
  | .goto _ => rN r1 L st S
  | .tableswitch d lo _ os => match st with
    | .inl z :: st => if inR z then tsw L st S pc d z lo os.toList else none
    | _ => none
  | .lookupswitch d ps => match st with
    | .inl z :: st => if inR z then lsw L st S pc d z ps.toList else none
    | _ => none
  | .dup => match st with
    | v :: st => rN (pc + 1) L (v :: v :: st) S
    | _ => none
  | .dup2 => match st with
    | v :: u :: st => rN (pc + 1) L (v :: u :: v :: u :: st) S
    | _ => none
  | .pop => match st with
    | _ :: st => rN (pc + 1) L st S
    | _ => none
  | .getfield _ => match st with
    | .inr (k, c) :: st => if c = r1 then gF k r1 r2 S (fun v => rN (pc + 3) L (v :: st) S) else none
    | _ => none
  | .putfield _ => match st with
    | v :: .inr (k, c) :: st => if c = r1 then pF k r1 r2 S v (fun S => rN (pc + 3) L st S) else none
    | _ => none
  | .getstatic _ => rN (pc + 3) L (.inr (0, r1) :: st) S
  | .iaload => match st with
    | .inl i :: .inr (k, c) :: st => if kT c = 2 then (if 0 ≤ i ∧ i < kL c then rN (pc + 1) L (.inl (S k c i) :: st) S else none)
        else if kT c = 5 then (if 0 ≤ i ∧ i < kL c then rN (pc + 1) L (.inl (sv c i) :: st) S else none)
        else if kT c = 6 then (if 0 ≤ i ∧ i < S 0 41 0 then rN (pc + 1) L (.inl (S 0 40 i) :: st) S else none) else none
    | _ => none
  | .iastore => match st with
    | .inl v :: .inl i :: .inr (k, c) :: st => if kT c = 2 then (if 0 ≤ i ∧ i < kL c then rN (pc + 1) L st (hu S k c i v) else none) else none
    | _ => none
  | .caload => match st with
    | .inl i :: .inr (k, c) :: st => if kT c = 3 then (if 0 ≤ i ∧ i < kL c then rN (pc + 1) L (.inl (S k c i) :: st) S else none) else none
    | _ => none
  | .castore => match st with
    | .inl v :: .inl i :: .inr (k, c) :: st => if kT c = 3 then (if (0 ≤ i ∧ i < kL c) ∧ 0 ≤ v ∧ v < 65536 then rN (pc + 1) L st (hu S k c i v) else none) else none
    | _ => none
  | .aaload => match st with
    | .inl i :: .inr (k, c) :: st => if kT c = 4 then (if 0 ≤ i ∧ i < kL c then rN (pc + 1) L (.inr ((S k c i).toNat, 0) :: st) S else none) else none
    | _ => none
  | .aastore => match st with
    | .inr (q, 0) :: .inl i :: .inr (k, c) :: st => if kT c = 4 then (if 0 ≤ i ∧ i < kL c then rN (pc + 1) L st (hu S k c i q) else none) else none
    | _ => none
  | .arraylength => match st with
    | .inr (_, c) :: st => if kT c = 6 then rN (pc + 1) L (.inl (S 0 41 0) :: st) S else none
    | _ => none
  | .invokevirtual _ => match (st.take (r2 + 1)).reverse with
    | .inr (k, c) :: as => if c = mT r1 ∧ as.length = r2 ∧ (st.drop (r2 + 1)).length ≤ 8 then rC r1 (.inr (k, c) :: as) (pc + 3) L (st.drop (r2 + 1)) S else none
    | _ => none
  | .invokestatic _ => if r1 = 9999 then (match st with
      | [.inl n, .inl dp, .inr (k2, c2), .inl sp, .inr (k1, c1)] => if (kT c1 = 2 ∧ kT c2 = 2) ∧ (0 ≤ n ∧ 0 ≤ sp ∧ 0 ≤ dp) ∧ sp + n ≤ kL c1 ∧ dp + n ≤ kL c2 then rN (pc + 3) L [] (hcp S k1 c1 sp k2 c2 dp n) else none
      | _ => none)
    else if (st.take r2).length = r2 ∧ (st.drop r2).length ≤ 8 then rC r1 (st.take r2).reverse (pc + 3) L (st.drop r2) S else none
  | .ireturn => match st with
    | [.inl z] => match mR mi with
      | some .int => rR (some (.inl z)) S
      | some .boolean => if z = 0 ∨ z = 1 then rR (some (.inl z)) S else none
      | _ => none
    | _ => none
  | .areturn => match st with
    | [.inr a] => match mR mi with
      | some (.object _) => rR (some (.inr a)) S
      | some (.array _) => rR (some (.inr a)) S
      | _ => none
    | _ => none
  | .return_ => match st with
    | [] => match mR mi with
      | none => rR none S
      | _ => none
    | _ => none
  | _ => none
def stR (mi pc : Nat) (L : Lc) (st : List MV) (S : Hp) : Option Rs := match (if pc < mZ mi then mC mi pc else none) with
  | none => none
  | some (ins, _, r1, r2, _) => stI mi pc r1 r2 L st S ins
def fo {α : Type} (ff : α) (nx : Nat → Lc → List MV → Hp → α) (cl : Nat → List MV → Nat → Lc → List MV → Hp → α) (rt : Option MV → Hp → α) : Option Rs → α
  | none => ff
  | some (.inl (pc, L, st, S)) => nx pc L st S
  | some (.inr (.inl (m, as, pc, L, st, S))) => cl m as pc L st S
  | some (.inr (.inr (v, S))) => rt v S
theorem fo_none {α : Type} (ff : α) (nx : Nat → Lc → List MV → Hp → α) (cl : Nat → List MV → Nat → Lc → List MV → Hp → α) (rt : Option MV → Hp → α) : fo ff nx cl rt none = ff := rfl
theorem fo_N {α : Type} (ff : α) (nx : Nat → Lc → List MV → Hp → α) (cl : Nat → List MV → Nat → Lc → List MV → Hp → α) (rt : Option MV → Hp → α) (pc : Nat) (L : Lc) (st : List MV) (S : Hp) : fo ff nx cl rt (rN pc L st S) = nx pc L st S := rfl
theorem fo_C {α : Type} (ff : α) (nx : Nat → Lc → List MV → Hp → α) (cl : Nat → List MV → Nat → Lc → List MV → Hp → α) (rt : Option MV → Hp → α) (m : Nat) (as : List MV) (pc : Nat) (L : Lc) (st : List MV) (S : Hp) : fo ff nx cl rt (rC m as pc L st S) = cl m as pc L st S := rfl
theorem fo_R {α : Type} (ff : α) (nx : Nat → Lc → List MV → Hp → α) (cl : Nat → List MV → Nat → Lc → List MV → Hp → α) (rt : Option MV → Hp → α) (v : Option MV) (S : Hp) : fo ff nx cl rt (rR v S) = rt v S := rfl
theorem fo_ite {α : Type} (ff : α) (nx : Nat → Lc → List MV → Hp → α) (cl : Nat → List MV → Nat → Lc → List MV → Hp → α) (rt : Option MV → Hp → α) (c : Prop) [Decidable c] (a b : Option Rs) : fo ff nx cl rt (if c then a else b) = if c then fo ff nx cl rt a else fo ff nx cl rt b := by split <;> rfl
def ini (m : Nat) (as : List MV) : Lc := as.map some ++ List.replicate (mL m - as.length) none
def ex : Nat → Nat → Nat → Lc → List MV → Hp → Option (Option MV × Hp)
  | 0, _, _, _, _, _ => none
  | n + 1, mi, pc, L, st, S => fo none (fun pc L st S => ex n mi pc L st S)
      (fun m as pc L st S => (ex n m 0 (ini m as) [] S).bind (fun q => ex n mi pc L (q.1.toList ++ st) q.2))
      (fun v S => some (v, S)) (stR mi pc L st S)
/-- it comes to an end with Q -/
def Wp (mi pc : Nat) (L : Lc) (st : List MV) (S : Hp) (Q : Option MV → Hp → Prop) : Prop := ∃ (n : Nat) (v : Option MV) (S' : Hp), ex n mi pc L st S = some (v, S') ∧ Q v S'
theorem ex_mono : ∀ (n mi pc : Nat) (L : Lc) (st : List MV) (S : Hp) (q : Option MV × Hp), ex n mi pc L st S = some q → ex (n + 1) mi pc L st S = some q := by
  intro n
  induction n with
  | zero => intro mi pc L st S q h; simp [ex] at h
  | succ n ih =>
    intro mi pc L st S q h
    rw [ex] at h ⊢
    match hr : stR mi pc L st S, h with
    | none, h => simp [fo] at h
    | some (.inl (pc', L', st', S')), h => exact ih _ _ _ _ _ _ h
    | some (.inr (.inl (m', as, pc', L', st', S'))), h =>
      simp only [fo] at h ⊢
      match h1 : ex n m' 0 (ini m' as) [] S', h with
      | none, h => simp at h
      | some q1, h =>
        rw [ih _ _ _ _ _ _ h1]
        exact ih _ _ _ _ _ _ h
    | some (.inr (.inr (v', S'))), h => exact h
theorem ex_le {n k mi pc : Nat} {L : Lc} {st : List MV} {S : Hp} {q : Option MV × Hp} (hk : n ≤ k) (h : ex n mi pc L st S = some q) : ex k mi pc L st S = some q := by
  induction hk with
  | refl => exact h
  | step _ ih => exact ex_mono _ _ _ _ _ _ _ ih
/-- one step -/
abbrev wS (mi : Nat) (Q : Option MV → Hp → Prop) : Option Rs → Prop := fo False (fun pc L st S => Wp mi pc L st S Q)
  (fun m as pc L st S => Wp m 0 (ini m as) [] S (fun v S => Wp mi pc L (v.toList ++ st) S Q)) (fun v S => Q v S)
theorem wp_step {mi pc : Nat} {L : Lc} {st : List MV} {S : Hp} {Q : Option MV → Hp → Prop} (h : wS mi Q (stR mi pc L st S)) : Wp mi pc L st S Q := by
  match hr : stR mi pc L st S with
  | none => rw [hr] at h; exact h.elim
  | some (.inl (pc', L', st', S')) =>
    rw [hr] at h
    obtain ⟨n, v, S2, h1, h2⟩ := h
    exact ⟨n + 1, v, S2, by rw [ex, hr]; exact h1, h2⟩
  | some (.inr (.inl (m', as, pc', L', st', S'))) =>
    rw [hr] at h
    obtain ⟨n, v, S2, h1, k, v3, S3, h3, h4⟩ := h
    refine ⟨max n k + 1, v3, S3, ?_, h4⟩
    rw [ex, hr]
    show (ex (max n k) m' 0 (ini m' as) [] S').bind _ = _
    rw [ex_le (Nat.le_max_left n k) h1]
    exact ex_le (Nat.le_max_right n k) h3
  | some (.inr (.inr (v', S'))) =>
    rw [hr] at h
    exact ⟨1, v', S', by rw [ex, hr]; rfl, h⟩
theorem Wp.mono {mi pc : Nat} {L : Lc} {st : List MV} {S : Hp} {Q Q' : Option MV → Hp → Prop} (h : Wp mi pc L st S Q) (hq : ∀ v S, Q v S → Q' v S) : Wp mi pc L st S Q' := by
  obtain ⟨n, v, S', h1, h2⟩ := h
  exact ⟨n, v, S', h1, hq _ _ h2⟩
/-- many steps at once, up to the cuts; calls of a method in 'nl' are gone into -/
def vQ (F : Nat → Nat → Lc → List MV → Hp → (Option MV → Hp → Prop) → Prop) (mi pc : Nat) (L : Lc) (st : List MV) (Q : Option MV → Hp → Prop) (v : Option MV) (S : Hp) : Prop := F mi pc L (v.toList ++ st) S Q
def vK (F : Nat → Nat → Lc → List MV → Hp → (Option MV → Hp → Prop) → Prop) (nl : Nat → Bool) (mi : Nat) (Q : Option MV → Hp → Prop) : Option Rs → Prop
  | none => False
  | some (.inl (pc, L, st, S)) => F mi pc L st S Q
  | some (.inr (.inl (m, as, pc, L, st, S))) => if nl m = true then F m 0 (ini m as) [] S (vQ F mi pc L st Q) else Wp m 0 (ini m as) [] S (vQ F mi pc L st Q)
  | some (.inr (.inr (v, S))) => Q v S
def vg (ct : Nat → Nat → Bool) (nl : Nat → Bool) : Nat → Nat → Nat → Lc → List MV → Hp → (Option MV → Hp → Prop) → Prop
  | 0, mi, pc, L, st, S, Q => Wp mi pc L st S Q
  | n + 1, mi, pc, L, st, S, Q => if ct mi pc = true then Wp mi pc L st S Q else vK (vg ct nl n) nl mi Q (stR mi pc L st S)
theorem vg_0 (ct : Nat → Nat → Bool) (nl : Nat → Bool) (mi pc : Nat) (L : Lc) (st : List MV) (S : Hp) (Q : Option MV → Hp → Prop) : vg ct nl 0 mi pc L st S Q = Wp mi pc L st S Q := rfl
theorem vg_s (ct : Nat → Nat → Bool) (nl : Nat → Bool) (n mi pc : Nat) (L : Lc) (st : List MV) (S : Hp) (Q : Option MV → Hp → Prop) : vg ct nl (n + 1) mi pc L st S Q = if ct mi pc = true then Wp mi pc L st S Q else vK (vg ct nl n) nl mi Q (stR mi pc L st S) := rfl
section VK
variable (F : Nat → Nat → Lc → List MV → Hp → (Option MV → Hp → Prop) → Prop) (nl : Nat → Bool) (mi : Nat) (Q : Option MV → Hp → Prop) (pc : Nat) (L : Lc) (st : List MV) (S : Hp)
theorem vQ_some (v : MV) : vQ F mi pc L st Q (some v) S = F mi pc L (v :: st) S Q := rfl
theorem vQ_none : vQ F mi pc L st Q none S = F mi pc L st S Q := rfl
theorem vK_none : vK F nl mi Q none = False := rfl
theorem vK_N : vK F nl mi Q (rN pc L st S) = F mi pc L st S Q := rfl
theorem vK_C (m : Nat) (as : List MV) : vK F nl mi Q (rC m as pc L st S) = if nl m = true then F m 0 (ini m as) [] S (vQ F mi pc L st Q) else Wp m 0 (ini m as) [] S (vQ F mi pc L st Q) := rfl
theorem vK_R (v : Option MV) : vK F nl mi Q (rR v S) = Q v S := rfl
theorem vK_ite (c : Prop) (d : Decidable c) (a b : Option Rs) : vK F nl mi Q (@ite _ c d a b) = @ite _ c d (vK F nl mi Q a) (vK F nl mi Q b) := by split <;> rfl
end VK
theorem vK_sound {F : Nat → Nat → Lc → List MV → Hp → (Option MV → Hp → Prop) → Prop} (hF : ∀ mi pc L st S Q, F mi pc L st S Q → Wp mi pc L st S Q) {nl : Nat → Bool} {mi : Nat} {Q : Option MV → Hp → Prop} {pc : Nat} {L : Lc} {st : List MV} {S : Hp} (h : vK F nl mi Q (stR mi pc L st S)) : Wp mi pc L st S Q := by
  refine wp_step ?_
  match hr : stR mi pc L st S with
  | none => rw [hr] at h; exact h
  | some (.inl (pc', L', st', S')) => rw [hr] at h; exact hF _ _ _ _ _ _ h
  | some (.inr (.inl (m', as, pc', L', st', S'))) =>
    rw [hr] at h
    simp only [vK, fo] at h ⊢
    split at h
    · exact (hF _ _ _ _ _ _ h).mono (fun v S hv => hF _ _ _ _ _ _ hv)
    · exact h.mono (fun v S hv => hF _ _ _ _ _ _ hv)
  | some (.inr (.inr (v', S'))) => rw [hr] at h; exact h
theorem vg_sound (ct : Nat → Nat → Bool) (nl : Nat → Bool) : ∀ (n mi pc : Nat) (L : Lc) (st : List MV) (S : Hp) (Q : Option MV → Hp → Prop), vg ct nl n mi pc L st S Q → Wp mi pc L st S Q := by
  intro n
  induction n with
  | zero => intro mi pc L st S Q h; exact h
  | succ n ih =>
    intro mi pc L st S Q h
    rw [vg] at h
    split at h
    · exact h
    · exact vK_sound ih h
/-- from a cut: one step, then as above -/
theorem vg_cut (ct : Nat → Nat → Bool) (nl : Nat → Bool) (n mi pc : Nat) (L : Lc) (st : List MV) (S : Hp) (Q : Option MV → Hp → Prop)
    (h : vK (vg ct nl n) nl mi Q (stR mi pc L st S)) : Wp mi pc L st S Q := vK_sound (vg_sound ct nl n) h
end
section
/-! numbers: what ofInt does to the operations -/
theorem oi_toInt {z : Int} (h : inR z) : (Int32.ofInt z).toInt = z := by
  obtain ⟨h1, h2⟩ := h
  exact Int32.toInt_ofInt_of_le (by omega) (by omega)
theorem oi_lt {u v : Int} (hu : inR u) (hv : inR v) : Int32.ofInt u < Int32.ofInt v ↔ u < v := by
  rw [Int32.lt_iff_toInt_lt, oi_toInt hu, oi_toInt hv]
theorem oi_le {u v : Int} (hu : inR u) (hv : inR v) : Int32.ofInt u ≤ Int32.ofInt v ↔ u ≤ v := by
  rw [Int32.le_iff_toInt_le, oi_toInt hu, oi_toInt hv]
theorem oi_eq {u v : Int} (hu : inR u) (hv : inR v) : Int32.ofInt u = Int32.ofInt v ↔ u = v := by
  constructor
  · intro h
    have h1 := congrArg Int32.toInt h
    rwa [oi_toInt hu, oi_toInt hv] at h1
  · intro h; rw [h]
theorem oi_nI (n : Nat) : Int32.ofInt (n : Int) = nI n := Int32.ofInt_eq_ofNat
theorem oi_clamp {z : Int} (h0 : 0 ≤ z) (h : z < 2147483648) : (Int32.ofInt z).toNatClampNeg = z.toNat := by
  obtain ⟨n, rfl⟩ : ∃ n : Nat, z = n := ⟨z.toNat, by omega⟩
  rw [oi_nI, nI_clamp (by omega)]
  rfl
theorem oi_in {z : Int} {n : Nat} (h0 : 0 ≤ z) (h : z < n) (hn : n < 2147483648) : vp_in (Int32.ofInt z) n := by
  obtain ⟨k, rfl⟩ : ∃ k : Nat, z = k := ⟨z.toNat, by omega⟩
  rw [oi_nI]
  exact vp_in_nI (by omega) (by omega)
theorem oi_div {u v : Int} (h : 0 ≤ u ∧ u < 2147483648 ∧ 0 < v ∧ v < 2147483648) : Int32.ofInt u / Int32.ofInt v = Int32.ofInt (u / v) := by
  obtain ⟨a, rfl⟩ : ∃ a : Nat, u = a := ⟨u.toNat, by omega⟩
  obtain ⟨b, rfl⟩ : ∃ b : Nat, v = b := ⟨v.toNat, by omega⟩
  rw [← Int.natCast_ediv, oi_nI, oi_nI, oi_nI]
  exact pk_div (by omega) (by omega) (by omega)
theorem oi_rem {u v : Int} (h : 0 ≤ u ∧ u < 2147483648 ∧ 0 < v ∧ v < 2147483648) : Int32.ofInt u - Int32.ofInt u / Int32.ofInt v * Int32.ofInt v = Int32.ofInt (u % v) := by
  obtain ⟨a, rfl⟩ : ∃ a : Nat, u = a := ⟨u.toNat, by omega⟩
  obtain ⟨b, rfl⟩ : ∃ b : Nat, v = b := ⟨v.toNat, by omega⟩
  rw [← Int.natCast_emod, oi_nI, oi_nI, oi_nI]
  exact pk_rem (by omega) (by omega) (by omega)
theorem oi_s_l : ∀ n, n < 32 → ((nI n &&& 31).toBitVec.smod 32).toNat = n := by decide +kernel
theorem oi_s_u : ∀ n, n < 32 → (((nI n).toUInt32 &&& Int32.toUInt32 31).toBitVec % 32).toNat = n := by decide +kernel
theorem oi_shl {u v : Int} (h : 0 ≤ v ∧ v < 32 ∧ 0 ≤ u ∧ u * 2 ^ v.toNat < 2147483648) : Int32.ofInt u <<< (Int32.ofInt v &&& 31) = Int32.ofInt (u * 2 ^ v.toNat) := by
  obtain ⟨a, rfl⟩ : ∃ a : Nat, u = a := ⟨u.toNat, by omega⟩
  obtain ⟨b, rfl⟩ : ∃ b : Nat, v = b := ⟨v.toNat, by omega⟩
  have e : ((a : Int) * 2 ^ (b : Int).toNat) = ((a * 2 ^ b : Nat) : Int) := by simp
  rw [e] at h ⊢
  rw [oi_nI, oi_nI, oi_nI]
  exact pk_shlN _ b (oi_s_l b (by omega)) (by omega)
theorem oi_shr {u v : Int} (h : 0 ≤ v ∧ v < 32 ∧ -2147483648 ≤ u ∧ u < 2147483648) : Int32.ofInt u >>> (Int32.ofInt v &&& 31) = Int32.ofInt (u / 2 ^ v.toNat) := by
  obtain ⟨h1, h2, h3, h4⟩ := h
  obtain ⟨b, rfl⟩ : ∃ b : Nat, v = b := ⟨v.toNat, by omega⟩
  have e1 := oi_s_l b (by omega)
  have hb : ((Int32.ofInt (b : Int)) &&& 31).toBitVec.smod 32 = ((nI b) &&& 31).toBitVec.smod 32 := by rw [oi_nI]
  apply Int32.toInt_inj.1
  have hd : inR (u / 2 ^ (b : Int).toNat) := by
    have hp : (1 : Int) ≤ 2 ^ b := by
      have h5 : (1 : Nat) ≤ 2 ^ b := Nat.one_le_two_pow
      have h6 : (((2 : Nat) ^ b : Nat) : Int) = 2 ^ b := by simp
      omega
    rw [Int.toNat_natCast]
    constructor
    · have := Int.le_ediv_of_mul_le (a := -2147483648) (b := u) (c := 2 ^ b) (by omega) (by
        generalize (2 : Int) ^ b = p at *
        omega)
      exact this
    · exact Int.ediv_lt_of_lt_mul (by omega) (by
        generalize (2 : Int) ^ b = p at *
        omega)
  rw [oi_toInt hd]
  show ((Int32.ofInt u).toBitVec.sshiftRight' (((Int32.ofInt (b : Int)) &&& 31).toBitVec.smod 32)).toInt = _
  rw [hb, BitVec.sshiftRight', BitVec.toInt_sshiftRight, e1, Int.shiftRight_eq_div_pow]
  have e3 : (Int32.ofInt u).toBitVec.toInt = u := oi_toInt ⟨h3, h4⟩
  rw [e3]
  simp
theorem oi_ushr {u v : Int} (h : 0 ≤ v ∧ v < 32 ∧ 0 ≤ u ∧ u < 2147483648) : ((Int32.ofInt u).toUInt32 >>> ((Int32.ofInt v).toUInt32 &&& Int32.toUInt32 31)).toInt32 = Int32.ofInt (u / 2 ^ v.toNat) := by
  obtain ⟨a, rfl⟩ : ∃ a : Nat, u = a := ⟨u.toNat, by omega⟩
  obtain ⟨b, rfl⟩ : ∃ b : Nat, v = b := ⟨v.toNat, by omega⟩
  have e : ((a : Int) / 2 ^ (b : Int).toNat) = ((a / 2 ^ b : Nat) : Int) := by simp
  rw [e, oi_nI, oi_nI, oi_nI]
  exact pk_ushrN (by omega) _ b (oi_s_u b (by omega))
theorem oi_char (z : Int) : ((Int32.ofInt z).toUInt32 % 65536).toInt32 = Int32.ofInt (z % 65536) := by
  rw [pk_char]
  have e : z % 65536 = (((Int32.ofInt z).toBitVec.toNat % 65536 : Nat) : Int) := by
    rw [Int32.toBitVec_ofInt, BitVec.toNat_ofInt]
    have h1 : (0 : Int) ≤ z % ((2 ^ 32 : Nat) : Int) := Int.emod_nonneg _ (by decide)
    omega
  rw [e, oi_nI]
theorem oi_nar {v : Int} (h : 0 ≤ v ∧ v < 65536) : vp_nar .char (Int32.ofInt v) = Int32.ofInt v := by
  obtain ⟨a, rfl⟩ : ∃ a : Nat, v = a := ⟨v.toNat, by omega⟩
  rw [oi_nI]
  unfold vp_nar
  rw [(pk_charN (by omega : a < 65536)).1]
theorem oi_and (u v : Int) : Int32.ofInt u &&& Int32.ofInt v = Int32.ofInt (bAnd u v) := (Int32.ofInt_toInt _).symm
theorem oi_or (u v : Int) : Int32.ofInt u ||| Int32.ofInt v = Int32.ofInt (bOr u v) := (Int32.ofInt_toInt _).symm
theorem oi_xor (u v : Int) : Int32.ofInt u ^^^ Int32.ofInt v = Int32.ofInt (bXor u v) := (Int32.ofInt_toInt _).symm
theorem oi_ne0 {v : Int} (h : 0 < v) (h2 : v < 2147483648) : ¬ Int32.ofInt v = 0 := by
  intro e
  have h1 := (oi_eq (u := v) (v := 0) (by omega) (by omega)).mp (e.trans rfl)
  omega
end
section
/-! THE WORLD: the small heap, laid over the machine's heap by addresses rho -/
def cvv (rho : Nat → Nat → Nat) : MV → Value
  | .inl z => .int (Int32.ofInt z)
  | .inr q => .ref (rho q.1 q.2)
def fM (S : Hp) (k c j : Nat) : MV := match (kF c)[j]? with
  | some 0 => .inl (S k c j)
  | some 1 => .inl (S k c j)
  | some 2 => .inr ((S k c j).toNat, 0)
  | some q => if q < 100 then .inr (k, q - 10) else .inr (q - 100, 0)
  | none => .inl 0
theorem gF_fM {k c j q : Nat} {S : Hp} {f : MV → Option Rs} (h : (kF c)[j]? = some q) : gF k c j S f = f (fM S k c j) := by
  unfold gF fM
  rw [h]
  match q with
  | 0 => rfl
  | 1 => rfl
  | 2 => rfl
  | q + 3 =>
    show (if q + 3 < 100 then f (.inr (k, q + 3 - 10)) else f (.inr (q + 3 - 100, 0))) = f (if q + 3 < 100 then .inr (k, q + 3 - 10) else .inr (q + 3 - 100, 0))
    split <;> rfl
theorem fM_congr {k c j : Nat} {S S' : Hp} (h : S' k c j = S k c j) : fM S' k c j = fM S k c j := by unfold fM; rw [h]
def cE (cyC cyI cyO : ClassId) (rho : Nat → Nat → Nat) (S : Hp) (k c : Nat) : va_E :=
  if kT c = 1 then .inr (kN c, (List.range (kF c).length).map (fun j => cvv rho (fM S k c j)))
  else if kT c = 3 then .inl (cyC, kN c, .inl (fun j => Int32.ofInt (S k c j)))
  else if kT c = 4 then .inl (cyO, kN c, .inr (.inr (.inr (.inr (fun j => some (rho (S k c j).toNat 0))))))
  else .inl (cyI, kN c, .inl (fun j => Int32.ofInt (S k c j)))
def ids0 : List (Nat × Nat) := (List.range 30).flatMap (fun c => (List.range (kK 0 c)).map (fun k => (k, c)))
def ids (al : Nat) : List (Nat × Nat) := ids0 ++ (List.range al).map (fun k => (k, 30))
def wL (al : Nat) (cyC cyI cyO : ClassId) (rho : Nat → Nat → Nat) (S : Hp) : va_W := (ids al).map (fun q => (rho q.1 q.2, cE cyC cyI cyO rho S q.1 q.2))
theorem kK_lo {al c : Nat} (h : c < 30) : kK al c = kK 0 c := by
  unfold kK
  split
  · rfl
  · first | rfl | rw [if_pos h, if_pos h] | simp [h]
theorem kK_30 (al : Nat) : kK al 30 = al := rfl
theorem kK_hi {al c : Nat} (h : 30 < c) : kK al c = 0 := by
  unfold kK
  rw [if_neg (by omega), if_neg (by omega), if_neg (by omega)]
theorem ids_mem {al k c : Nat} : (k, c) ∈ ids al ↔ c < 36 ∧ k < kK al c := by
  simp only [ids, ids0, List.mem_append, List.mem_flatMap, List.mem_range, List.mem_map, Prod.mk.injEq]
  constructor
  · rintro (⟨a, h1, b, h2, rfl, rfl⟩ | ⟨a, h1, rfl, rfl⟩)
    · rw [kK_lo h1]; exact ⟨by omega, h2⟩
    · exact ⟨by omega, h1⟩
  · rintro ⟨h1, h2⟩
    rcases Nat.lt_or_ge c 30 with g | g
    · rw [kK_lo g] at h2
      exact Or.inl ⟨c, g, k, h2, rfl, rfl⟩
    · rcases Nat.eq_or_lt_of_le g with g2 | g2
      · subst g2
        exact Or.inr ⟨k, h2, rfl, rfl⟩
      · rw [kK_hi g2] at h2; omega
theorem ids0_nd : ids0.Nodup := by decide +kernel
theorem ids0_lt : ∀ q ∈ ids0, q.2 < 30 := by decide +kernel
theorem ids_nd (al : Nat) : (ids al).Nodup := by
  unfold ids
  rw [List.nodup_append]
  refine ⟨ids0_nd, ?_, ?_⟩
  · rw [List.nodup_iff_pairwise_ne, List.pairwise_map]
    refine List.Pairwise.imp ?_ (List.nodup_iff_pairwise_ne.mp (List.nodup_range (n := al)))
    intro a b h e
    exact h (congrArg Prod.fst e)
  · intro a ha b hb e
    subst e
    have h1 := ids0_lt a ha
    obtain ⟨k, -, rfl⟩ := List.mem_map.mp hb
    exact absurd h1 (by simp)
theorem ids_succ (al : Nat) : ids (al + 1) = ids al ++ [(al, 30)] := by
  unfold ids
  rw [List.range_succ, List.map_append, List.append_assoc]
  rfl
def vM (al : Nat) (v : MV) : Prop := match v with
  | .inl _ => True
  | .inr q => (q.2 < 36 ∧ q.1 < kK al q.2) ∨ (36 ≤ q.2 ∧ q.2 < 41 ∧ q.1 = 0)
def vS (S : Hp) : Prop := (∀ k c j : Nat, k < kK 0 c → (kF c)[j]? = some 2 → 0 ≤ S k c j ∧ S k c j < 7) ∧ ∀ (k c : Nat) (j : Int), k < kK 0 c → kT c = 4 → 0 ≤ j → j < kL c → 0 ≤ S k c j ∧ S k c j < 7
def StS (Ln : Nat) (xs : Int → Int) (S : Hp) : Prop := vS S ∧ S 0 41 0 = Ln ∧ ∀ j, S 0 40 j = xs j
theorem kF_ok : ∀ c, c < 36 → ∀ q ∈ kF c, c < 30 ∧ (3 ≤ q → (q < 100 → q - 10 < 30 ∧ kK 0 c ≤ kK 0 (q - 10)) ∧ (100 ≤ q → q - 100 < 7)) := by decide +kernel
theorem vM_fM {al : Nat} {S : Hp} {k c j q : Nat} (hS : vS S) (hc : c < 36) (hk : k < kK al c) (h : (kF c)[j]? = some q) : vM al (fM S k c j) := by
  obtain ⟨c30, h0⟩ := kF_ok c hc q (List.mem_of_getElem? h)
  rw [kK_lo c30] at hk
  have hS1 := hS.1 k c j hk
  unfold fM
  rw [h] at hS1 ⊢
  match q, h, h0 with
  | 0, _, _ => trivial
  | 1, _, _ => trivial
  | 2, _, _ =>
    have h2 := hS1 rfl
    refine Or.inl ⟨Nat.le_of_ble_eq_true rfl, ?_⟩
    show (S k c j).toNat < 7
    omega
  | q + 3, h, h0 =>
    obtain ⟨h1, h2⟩ := h0 (by omega)
    show vM al (if q + 3 < 100 then .inr (k, q + 3 - 10) else .inr (q + 3 - 100, 0))
    split
    · next h4 =>
      obtain ⟨h5, h6⟩ := h1 h4
      exact Or.inl ⟨Nat.lt_trans h5 (by decide), by rw [kK_lo h5]; exact Nat.lt_of_lt_of_le hk h6⟩
    · next h4 => exact Or.inl ⟨Nat.le_of_ble_eq_true rfl, h2 (by omega)⟩
section WLD
variable {al : Nat} {cyC cyI cyO : ClassId} {rho : Nat → Nat → Nat}
theorem cE_congr {k c : Nat} {S S' : Hp} (h : ∀ j, S' k c j = S k c j) : cE cyC cyI cyO rho S' k c = cE cyC cyI cyO rho S k c := by
  have e : S' k c = S k c := funext h
  unfold cE
  rw [e]
  have e2 : (fun j => cvv rho (fM S' k c j)) = (fun j => cvv rho (fM S k c j)) := funext fun j => by rw [fM_congr (h j)]
  rw [e2]
theorem wL_get (S : Hp) {k c : Nat} (hc : c < 36) (hk : k < kK al c) : ∃ q0 : Nat, (ids al)[q0]? = some (k, c) ∧ (wL al cyC cyI cyO rho S)[q0]? = some (rho k c, cE cyC cyI cyO rho S k c) := by
  obtain ⟨q0, h⟩ := List.getElem?_of_mem (ids_mem.mpr ⟨hc, hk⟩)
  exact ⟨q0, h, by rw [wL, List.getElem?_map, h]; rfl⟩
theorem wL_set {q0 k c : Nat} {S S' : Hp} (h : (ids al)[q0]? = some (k, c)) (ho : ∀ k' c', ¬ (k' = k ∧ c' = c) → ∀ j, S' k' c' j = S k' c' j) :
    (wL al cyC cyI cyO rho S).set q0 (rho k c, cE cyC cyI cyO rho S' k c) = wL al cyC cyI cyO rho S' := by
  apply List.ext_getElem?
  intro i
  have hl : q0 < (ids al).length := (List.getElem?_eq_some_iff.mp h).1
  rw [List.getElem?_set]
  by_cases hi : q0 = i
  · subst hi
    rw [if_pos rfl, if_pos (by rw [wL, List.length_map]; exact hl), wL, List.getElem?_map, h]
    rfl
  · rw [if_neg hi, wL, wL, List.getElem?_map, List.getElem?_map]
    cases h2 : (ids al)[i]? with
    | none => rfl
    | some q =>
      obtain ⟨k', c'⟩ := q
      have hne : ¬ (k' = k ∧ c' = c) := by
        rintro ⟨rfl, rfl⟩
        have hl2 := (List.getElem?_eq_some_iff.mp h2)
        have hl1 := (List.getElem?_eq_some_iff.mp h)
        exact hi ((List.getElem_inj (ids_nd al)).mp (hl1.2.trans hl2.2.symm))
      show some (rho k' c', cE cyC cyI cyO rho S k' c') = some (rho k' c', cE cyC cyI cyO rho S' k' c')
      rw [cE_congr (ho k' c' hne)]
theorem wL_addr (S S' : Hp) (i : Nat) : ((wL al cyC cyI cyO rho S)[i]?).map Prod.fst = ((wL al cyC cyI cyO rho S')[i]?).map Prod.fst := by
  rw [wL, wL, List.getElem?_map, List.getElem?_map]
  cases (ids al)[i]? <;> rfl
theorem wL_D {A : Nat → Prop} {S : Hp} (S' : Hp) (h : va_D A (wL al cyC cyI cyO rho S)) : va_D A (wL al cyC cyI cyO rho S') := by
  have key : ∀ (k : Nat) (q : Nat × va_E), (wL al cyC cyI cyO rho S')[k]? = some q → ∃ q0, (wL al cyC cyI cyO rho S)[k]? = some q0 ∧ q0.1 = q.1 := by
    intro k q hq
    have h1 := wL_addr (al := al) (cyC := cyC) (cyI := cyI) (cyO := cyO) (rho := rho) S S' k
    rw [hq] at h1
    cases h2 : (wL al cyC cyI cyO rho S)[k]? with
    | none => rw [h2] at h1; cases h1
    | some q0 => rw [h2] at h1; exact ⟨q0, rfl, Option.some.inj h1⟩
  refine ⟨fun i j p q hp hq hpq => ?_, fun k q hk => ?_⟩
  · obtain ⟨p0, h1, h2⟩ := key i p hp
    obtain ⟨q0, h3, h4⟩ := key j q hq
    exact h.1 i j p0 q0 h1 h3 (by rw [h2, h4, hpq])
  · obtain ⟨q0, h1, h2⟩ := key k q hk
    rw [← h2]
    exact h.2 k q0 h1
end WLD
def isN : Jvm.Cond → Bool
  | .fieldLinkNest _ _ _ _ _ _ => true
  | .methodLinkNest _ _ _ _ => true
  | .arrayOver (.object _) => true
  | _ => false
def GW : List Jvm.Cond := lw_tbl.filter goodWord
theorem GW_in {i : Nat} {w : Jvm.Cond} (h : wAt i w = true) : w ∈ GW := by
  simp only [wAt, Bool.and_eq_true, decide_eq_true_eq] at h
  exact List.mem_filter.mpr ⟨List.mem_of_getElem? h.1, h.2⟩
theorem GW_good : GoodIn GW GW := fun w h => ⟨h, good_of_word (List.mem_filter.mp h).2⟩
def tys (cyC cyI cyO : ClassId) : List (ClassId × FieldType) := [(cyC, .char), (cyI, .int), (cyO, .object RX3)]
def St0 (dC : Nat → ClassId) (dI : Nat → Nat → Nat) (cyC cyI cyO : ClassId) (rho : Nat → Nat → Nat) (A : Nat → Prop) (Ln : Nat) (xs : Int → Int) (U : State) : Prop :=
  va_K (dC, dI) vwCl (tys cyC cyI cyO) U ∧ (∀ (i : Nat) (w : Jvm.Cond), lw_tbl[i]? = some w → isN w = true → va_Nw w U) ∧
  (∀ c, 36 ≤ c → c < 40 → va_Z "TicketWindows" (stN c) "[I" (.ref (rho 0 c)) A U U.heap ∧ va_T .int (rho 0 c) (kN c) (fun j => .int (Int32.ofInt (sv c j))) A U U.heap) ∧
  va_X (rho 0 40) Ln (fun j => Int32.ofInt (xs j)) U U.heap
theorem va_X_lt {b L : Nat} {f : Nat → Int32} {U : State} {H : Heap} (h : va_X b L f U H) : b < H.size := by
  obtain ⟨scr, h1, -⟩ := h
  exact (Array.getElem?_eq_some_iff.mp h1).1
section NXT
variable {dC : Nat → ClassId} {dI : Nat → Nat → Nat} {al : Nat} {cyC cyI cyO : ClassId} {rho : Nat → Nat → Nat} {A : Nat → Prop} {Ln : Nat} {xs : Int → Int}
theorem St0_next {s U : State} {H : Heap} {locs : List Loc} (h : St0 dC dI cyC cyI cyO rho A Ln xs s) (hA : ∀ c, 36 ≤ c → c < 41 → ¬ A (rho 0 c)) (hS : va_S A s.heap H locs) (hU : U.heap = H) (hW : s.WarmedH U.vm) : St0 dC dI cyC cyI cyO rho A Ln xs U := by
  obtain ⟨h1, h2, h3, h4⟩ := h
  refine ⟨va_K.moved hW.alike h1, fun i w hi hn => ?_, fun c c1 c2 => ?_, ?_⟩
  · have h5 := h2 i w hi hn
    cases w with
    | fieldLinkNest a b c d e f => exact va_Nw.warmF hW h5
    | methodLinkNest a b c d => exact va_Nw.warmM hW h5
    | arrayOver ty =>
      cases ty with
      | object C => exact va_AO.moved hW.alike h5
      | _ => cases hn
    | _ => cases hn
  · obtain ⟨g1, g2⟩ := h3 c c1 c2
    rw [hU]
    exact ⟨va_Z.moved hW.alike (g1.kept hS.2.1), va_T.moved hW.alike (g2.kept hS.2.1)⟩
  · rw [hU]
    exact va_X.moved hW.alike (h4.kept (hS.2.1 _ (va_X_lt h4) (hA 40 (by omega) (by omega))))
theorem St0_calling {U : State} (h : St0 dC dI cyC cyI cyO rho A Ln xs U) (g : JFrame) (mk : MethodId) (a : Array Value) : St0 dC dI cyC cyI cyO rho A Ln xs (U.calling g mk a) := by
  obtain ⟨h1, h2, h3, h4⟩ := h
  refine ⟨va_K.moved (u := U) (U := U.calling g mk a) (Vm.Alike.refl U.vm) h1, fun i w hi hn => ?_, fun c c1 c2 => ?_, ?_⟩
  · have h5 := h2 i w hi hn
    cases w with
    | fieldLinkNest a b c d e f => exact va_Nw.same (u := U) rfl rfl h5
    | methodLinkNest a b c d => exact va_Nw.same (u := U) rfl rfl h5
    | arrayOver ty =>
      cases ty with
      | object C => exact va_AO.moved (u := U) (U := U.calling g mk a) (Vm.Alike.refl U.vm) h5
      | _ => cases hn
    | _ => cases hn
  · obtain ⟨g1, g2⟩ := h3 c c1 c2
    exact ⟨va_Z.moved (u := U) (U := U.calling g mk a) (Vm.Alike.refl U.vm) g1, va_T.moved (u := U) (U := U.calling g mk a) (Vm.Alike.refl U.vm) g2⟩
  · exact va_X.moved (u := U) (U := U.calling g mk a) (Vm.Alike.refl U.vm) h4
end NXT
/-- locals -/
def lvL (rho : Nat → Nat → Nat) (L : Lc) : List (Nat × Value) := (List.range L.length).filterMap (fun i => match L[i]? with
  | some (some v) => some (i, cvv rho v)
  | _ => none)
def LR (rho : Nat → Nat → Nat) (ls : Array Slot) (n : Nat) (L : Lc) : Prop := L.length = n ∧ lv_has ls n (lvL rho L)
theorem lvL_mem {rho : Nat → Nat → Nat} {L : Lc} {i : Nat} {v : MV} (h : L[i]? = some (some v)) : (i, cvv rho v) ∈ lvL rho L := by
  refine List.mem_filterMap.mpr ⟨i, List.mem_range.mpr (List.getElem?_eq_some_iff.mp h).1, ?_⟩
  rw [h]
theorem lvL_of {rho : Nat → Nat → Nat} {L : Lc} {q : Nat × Value} (h : q ∈ lvL rho L) : ∃ v, L[q.1]? = some (some v) ∧ q.2 = cvv rho v := by
  obtain ⟨i, -, h2⟩ := List.mem_filterMap.mp h
  match h3 : L[i]?, h2 with
  | some (some v), h2 => cases h2; exact ⟨v, h3, rfl⟩
theorem LR_at {rho : Nat → Nat → Nat} {ls : Array Slot} {n i : Nat} {L : Lc} {v : MV} (h : LR rho ls n L) (hv : L[i]? = some (some v)) : ls[i]? = some (.val (cvv rho v)) := h.2.2.2 _ (lvL_mem hv)
theorem cvv_cat (rho : Nat → Nat → Nat) (v : MV) : (cvv rho v).category = 1 := by cases v <;> rfl
theorem LR_put {rho : Nat → Nat → Nat} {ls' : Array Slot} {n i : Nat} {L : Lc} {v : MV} (hL : L.length = n) (hi : i < L.length)
    (h : lv_has ls' n ((i, cvv rho v) :: (lvL rho L).filter (fun q => !(q.1 == i) && !(q.1 + 1 == i && q.2.category == 2)))) : LR rho ls' n (L.set i (some v)) := by
  refine ⟨by rw [List.length_set]; exact hL, h.1, h.2.1, fun q hq => ?_⟩
  obtain ⟨w, h1, h2⟩ := lvL_of hq
  obtain ⟨j, u⟩ := q
  dsimp only at h1 h2
  subst h2
  refine h.2.2 _ ?_
  rw [List.getElem?_set] at h1
  by_cases hj : i = j
  · subst hj
    rw [if_pos rfl, if_pos hi] at h1
    cases h1
    exact List.mem_cons_self
  · rw [if_neg hj] at h1
    refine List.mem_cons_of_mem _ (List.mem_filter.mpr ⟨lvL_mem h1, ?_⟩)
    have hj2 : ¬ j = i := fun e => hj e.symm
    simp [hj2, cvv_cat]
end
section
/-! THE SMALL MACHINE IS TRUE: what it comes to, the machine comes to -/
def retAt (mi pc : Nat) (r : Option MV) : Prop :=
  (∃ z, r = some (.inl z) ∧ decode (mB mi) pc = .ok (.ireturn, 1) ∧ (mR mi = some .int ∨ (mR mi = some .boolean ∧ (z = 0 ∨ z = 1)))) ∨
  (∃ q, r = some (.inr q) ∧ decode (mB mi) pc = .ok (.areturn, 1) ∧ ((∃ n, mR mi = some (.object n)) ∨ ∃ n, mR mi = some (.array n))) ∨ (r = none ∧ decode (mB mi) pc = .ok (.return_, 1) ∧ mR mi = none)
section SND
variable {l : Launch} {dC : Nat → ClassId} {dI : Nat → Nat → Nat} {al : Nat} {cyC cyI cyO : ClassId} {rho : Nat → Nat → Nat} {A : Nat → Prop} {Ln : Nat} {xs : Int → Int}
def AD (al : Nat) (cyC cyI cyO : ClassId) (rho : Nat → Nat → Nat) (A : Nat → Prop) : Prop := (∀ c, 36 ≤ c → c < 41 → ¬ A (rho 0 c)) ∧ va_D A (wL al cyC cyI cyO rho (fun _ _ _ => 0))
def Cx (dC : Nat → ClassId) (dI : Nat → Nat → Nat) (al : Nat) (cyC cyI cyO : ClassId) (rho : Nat → Nat → Nat) (A : Nat → Prop) (Ln : Nat) (xs : Int → Int) (mi : Nat) (p : Program) (R : Room) (s : State) (m : MethodId) (args : Array Value) (c : Code) (cells slots : Nat) : Prop :=
  p.tables.exec = Jvm.exec ∧ c.code = mB mi ∧ c.maxLocals = mL mi ∧ s.vm.findClass (mO mi) = some m.cls ∧ (∀ w ∈ GW, w.before args s = true) ∧ St0 dC dI cyC cyI cyO rho A Ln xs s ∧ mF mi ≤ R.frames ∧ mLo mi ≤ R.locals ∧ cells ≤ R.cells ∧ slots ≤ R.slots ∧ AD al cyC cyI cyO rho A
def Rh (l : Launch) (dC : Nat → ClassId) (dI : Nat → Nat → Nat) (al : Nat) (cyC cyI cyO : ClassId) (rho : Nat → Nat → Nat) (A : Nat → Prop) (mi : Nat) (r : Option MV) (S' : Hp) (p : Program) (e : Env) (R : Room) (s : State) (m : MethodId) (args : Array Value) (below : List Frame) (meth : Method) (c : Code) (cells slots : Nat) (Q : State → Prop) : Prop :=
  ∀ (pc : Nat) (ls : Array Slot) (H : Heap) (locs : List Loc), retAt mi pc r → va_P (dC, dI) vwCl (wL al cyC cyI cyO rho S') H → va_S A s.heap H locs → W p l e R s m args below meth c H locs cells slots Q (F0 m pc ls (r.map (cvv rho)).toList)
abbrev KT : Type := Program → Env → Room → State → MethodId → Array Value → List Frame → Method → Code → Nat → Nat → (State → Prop) → Prop
def Gd (l : Launch) (dC : Nat → ClassId) (dI : Nat → Nat → Nat) (al : Nat) (cyC cyI cyO : ClassId) (rho : Nat → Nat → Nat) (A : Nat → Prop) (Ln : Nat) (xs : Int → Int) (mi : Nat) (KK : KT) (pc : Nat) (L : Lc) (st : List MV) (S : Hp) : Prop :=
  ∀ (p : Program) (e : Env) (R : Room) (s : State) (m : MethodId) (args : Array Value) (below : List Frame) (meth : Method) (c : Code) (H : Heap) (locs : List Loc) (cells slots : Nat) (Q : State → Prop) (ls : Array Slot),
    Cx dC dI al cyC cyI cyO rho A Ln xs mi p R s m args c cells slots → va_P (dC, dI) vwCl (wL al cyC cyI cyO rho S) H → va_S A s.heap H locs → LR rho ls (mL mi) L →
    KK p e R s m args below meth c cells slots Q → W p l e R s m args below meth c H locs cells slots Q (F0 m pc ls (st.map (cvv rho)))
variable {mi pc : Nat} {KK : KT} {r : Option MV} {S S' : Hp} {L : Lc} {st : List MV}
theorem gd_iload_n {i : Fin 4} {z : Int} (hd : decode (mB mi) pc = .ok (.iload_n i, 1)) (hv : L[f4 i]? = some (some (.inl z))) (k : Gd l dC dI al cyC cyI cyO rho A Ln xs mi KK (pc + 1) (L) (.inl z :: st) (S)) : Gd l dC dI al cyC cyI cyO rho A Ln xs mi KK pc (L) (st) (S) := by
  intro p e R s m args below meth c H locs cells slots Q ls hC hP hS hl hR
  obtain ⟨hx, hb, hml, hown, hts, hSt, hf, hlo, hcs, hss, hAD⟩ := id hC
  exact lv_iload_n hx hb hd (f4_val i).symm (LR_at hl hv) (k p e R s m args below meth c H locs cells slots Q ls hC hP hS hl hR)
theorem gd_iload {i : Nat} {z : Int} (hd : decode (mB mi) pc = .ok (.iload i, 2)) (hv : L[i]? = some (some (.inl z))) (k : Gd l dC dI al cyC cyI cyO rho A Ln xs mi KK (pc + 2) (L) (.inl z :: st) (S)) : Gd l dC dI al cyC cyI cyO rho A Ln xs mi KK pc (L) (st) (S) := by
  intro p e R s m args below meth c H locs cells slots Q ls hC hP hS hl hR
  obtain ⟨hx, hb, hml, hown, hts, hSt, hf, hlo, hcs, hss, hAD⟩ := id hC
  exact lv_iload hx hb hd (LR_at hl hv) (k p e R s m args below meth c H locs cells slots Q ls hC hP hS hl hR)
theorem gd_aload_n {i : Fin 4} {z : Nat × Nat} (hd : decode (mB mi) pc = .ok (.aload_n i, 1)) (hv : L[f4 i]? = some (some (.inr z))) (k : Gd l dC dI al cyC cyI cyO rho A Ln xs mi KK (pc + 1) (L) (.inr z :: st) (S)) : Gd l dC dI al cyC cyI cyO rho A Ln xs mi KK pc (L) (st) (S) := by
  intro p e R s m args below meth c H locs cells slots Q ls hC hP hS hl hR
  obtain ⟨hx, hb, hml, hown, hts, hSt, hf, hlo, hcs, hss, hAD⟩ := id hC
  exact lv_aload_n hx hb hd (f4_val i).symm (LR_at hl hv) (k p e R s m args below meth c H locs cells slots Q ls hC hP hS hl hR)
theorem gd_aload {i : Nat} {z : Nat × Nat} (hd : decode (mB mi) pc = .ok (.aload i, 2)) (hv : L[i]? = some (some (.inr z))) (k : Gd l dC dI al cyC cyI cyO rho A Ln xs mi KK (pc + 2) (L) (.inr z :: st) (S)) : Gd l dC dI al cyC cyI cyO rho A Ln xs mi KK pc (L) (st) (S) := by
  intro p e R s m args below meth c H locs cells slots Q ls hC hP hS hl hR
  obtain ⟨hx, hb, hml, hown, hts, hSt, hf, hlo, hcs, hss, hAD⟩ := id hC
  exact lv_aload hx hb hd (LR_at hl hv) (k p e R s m args below meth c H locs cells slots Q ls hC hP hS hl hR)
theorem gd_istore_n {i : Fin 4} {z : Int} (hd : decode (mB mi) pc = .ok (.istore_n i, 1)) (hi : f4 i < L.length) (k : Gd l dC dI al cyC cyI cyO rho A Ln xs mi KK (pc + 1) (L.set (f4 i) (some (.inl z))) (st) (S)) : Gd l dC dI al cyC cyI cyO rho A Ln xs mi KK pc (L) (.inl z :: st) (S) := by
  intro p e R s m args below meth c H locs cells slots Q ls hC hP hS hl hR
  obtain ⟨hx, hb, hml, hown, hts, hSt, hf, hlo, hcs, hss, hAD⟩ := id hC
  exact lv_istore_n (i := f4 i) hx hb hd (f4_val i).symm hl.2 (by rw [← hl.1]; exact hi) rfl (fun ls' h' => k p e R s m args below meth c H locs cells slots Q ls' hC hP hS (LR_put hl.1 hi h') hR)
theorem gd_istore {i : Nat} {z : Int} (hd : decode (mB mi) pc = .ok (.istore i, 2)) (hi : i < L.length) (k : Gd l dC dI al cyC cyI cyO rho A Ln xs mi KK (pc + 2) (L.set i (some (.inl z))) (st) (S)) : Gd l dC dI al cyC cyI cyO rho A Ln xs mi KK pc (L) (.inl z :: st) (S) := by
  intro p e R s m args below meth c H locs cells slots Q ls hC hP hS hl hR
  obtain ⟨hx, hb, hml, hown, hts, hSt, hf, hlo, hcs, hss, hAD⟩ := id hC
  exact lv_istore hx hb hd hl.2 (by rw [← hl.1]; exact hi) rfl (fun ls' h' => k p e R s m args below meth c H locs cells slots Q ls' hC hP hS (LR_put hl.1 hi h') hR)
theorem gd_astore_n {i : Fin 4} {z : Nat × Nat} (hd : decode (mB mi) pc = .ok (.astore_n i, 1)) (hi : f4 i < L.length) (k : Gd l dC dI al cyC cyI cyO rho A Ln xs mi KK (pc + 1) (L.set (f4 i) (some (.inr z))) (st) (S)) : Gd l dC dI al cyC cyI cyO rho A Ln xs mi KK pc (L) (.inr z :: st) (S) := by
  intro p e R s m args below meth c H locs cells slots Q ls hC hP hS hl hR
  obtain ⟨hx, hb, hml, hown, hts, hSt, hf, hlo, hcs, hss, hAD⟩ := id hC
  exact lv_astore_n (i := f4 i) hx hb hd (f4_val i).symm hl.2 (by rw [← hl.1]; exact hi) rfl (fun ls' h' => k p e R s m args below meth c H locs cells slots Q ls' hC hP hS (LR_put hl.1 hi h') hR)
theorem gd_astore {i : Nat} {z : Nat × Nat} (hd : decode (mB mi) pc = .ok (.astore i, 2)) (hi : i < L.length) (k : Gd l dC dI al cyC cyI cyO rho A Ln xs mi KK (pc + 2) (L.set i (some (.inr z))) (st) (S)) : Gd l dC dI al cyC cyI cyO rho A Ln xs mi KK pc (L) (.inr z :: st) (S) := by
  intro p e R s m args below meth c H locs cells slots Q ls hC hP hS hl hR
  obtain ⟨hx, hb, hml, hown, hts, hSt, hf, hlo, hcs, hss, hAD⟩ := id hC
  exact lv_astore hx hb hd hl.2 (by rw [← hl.1]; exact hi) rfl (fun ls' h' => k p e R s m args below meth c H locs cells slots Q ls' hC hP hS (LR_put hl.1 hi h') hR)
theorem gd_iinc {i : Nat} {z n : Int} (hd : decode (mB mi) pc = .ok (.iinc i n, 3)) (hv : L[i]? = some (some (.inl z))) (hi : i < L.length) (k : Gd l dC dI al cyC cyI cyO rho A Ln xs mi KK (pc + 3) (L.set i (some (.inl (z + n)))) (st) (S)) : Gd l dC dI al cyC cyI cyO rho A Ln xs mi KK pc (L) (st) (S) := by
  intro p e R s m args below meth c H locs cells slots Q ls hC hP hS hl hR
  obtain ⟨hx, hb, hml, hown, hts, hSt, hf, hlo, hcs, hss, hAD⟩ := id hC
  obtain ⟨q, hq⟩ := List.getElem?_of_mem (lvL_mem (rho := rho) hv)
  exact lv_iinc (v := Int32.ofInt (z + n)) hx hb hd hl.2 hq (Int32.ofInt_add z n).symm (by rw [← hl.1]; exact hi) rfl (fun ls' h' => k p e R s m args below meth c H locs cells slots Q ls' hC hP hS (LR_put (v := .inl (z + n)) hl.1 hi h') hR)
theorem gd_iconst {n : Int} (hd : decode (mB mi) pc = .ok (.iconst n, 1)) (k : Gd l dC dI al cyC cyI cyO rho A Ln xs mi KK (pc + 1) (L) (.inl n :: st) (S)) : Gd l dC dI al cyC cyI cyO rho A Ln xs mi KK pc (L) (st) (S) := by
  intro p e R s m args below meth c H locs cells slots Q ls hC hP hS hl hR
  obtain ⟨hx, hb, hml, hown, hts, hSt, hf, hlo, hcs, hss, hAD⟩ := id hC
  exact lv_iconst hx hb hd rfl (k p e R s m args below meth c H locs cells slots Q ls hC hP hS hl hR)
theorem gd_bipush {n : Int} (hd : decode (mB mi) pc = .ok (.bipush n, 2)) (hn : (Int8.ofInt n).toInt32 = Int32.ofInt n) (k : Gd l dC dI al cyC cyI cyO rho A Ln xs mi KK (pc + 2) (L) (.inl n :: st) (S)) : Gd l dC dI al cyC cyI cyO rho A Ln xs mi KK pc (L) (st) (S) := by
  intro p e R s m args below meth c H locs cells slots Q ls hC hP hS hl hR
  obtain ⟨hx, hb, hml, hown, hts, hSt, hf, hlo, hcs, hss, hAD⟩ := id hC
  exact lv_bipush hx hb hd hn (k p e R s m args below meth c H locs cells slots Q ls hC hP hS hl hR)
theorem gd_sipush {n : Int} (hd : decode (mB mi) pc = .ok (.sipush n, 3)) (hn : (Int16.ofInt n).toInt32 = Int32.ofInt n) (k : Gd l dC dI al cyC cyI cyO rho A Ln xs mi KK (pc + 3) (L) (.inl n :: st) (S)) : Gd l dC dI al cyC cyI cyO rho A Ln xs mi KK pc (L) (st) (S) := by
  intro p e R s m args below meth c H locs cells slots Q ls hC hP hS hl hR
  obtain ⟨hx, hb, hml, hown, hts, hSt, hf, hlo, hcs, hss, hAD⟩ := id hC
  exact lv_sipush hx hb hd hn (k p e R s m args below meth c H locs cells slots Q ls hC hP hS hl hR)
theorem gd_ldc {i q : Nat} {n : Int} (hd : decode (mB mi) pc = .ok (.ldc i, 2)) (hn : wAt q (.constant (mO mi) i (Int32.ofInt n)) = true) (k : Gd l dC dI al cyC cyI cyO rho A Ln xs mi KK (pc + 2) (L) (.inl n :: st) (S)) : Gd l dC dI al cyC cyI cyO rho A Ln xs mi KK pc (L) (st) (S) := by
  intro p e R s m args below meth c H locs cells slots Q ls hC hP hS hl hR
  obtain ⟨hx, hb, hml, hown, hts, hSt, hf, hlo, hcs, hss, hAD⟩ := id hC
  exact lv_ldc hx hb hown (hts _ (GW_in hn)) hd (k p e R s m args below meth c H locs cells slots Q ls hC hP hS hl hR)
theorem gd_ldc_w {i q : Nat} {n : Int} (hd : decode (mB mi) pc = .ok (.ldc_w i, 3)) (hn : wAt q (.constant (mO mi) i (Int32.ofInt n)) = true) (k : Gd l dC dI al cyC cyI cyO rho A Ln xs mi KK (pc + 3) (L) (.inl n :: st) (S)) : Gd l dC dI al cyC cyI cyO rho A Ln xs mi KK pc (L) (st) (S) := by
  intro p e R s m args below meth c H locs cells slots Q ls hC hP hS hl hR
  obtain ⟨hx, hb, hml, hown, hts, hSt, hf, hlo, hcs, hss, hAD⟩ := id hC
  exact lv_ldcw hx hb hown (hts _ (GW_in hn)) hd (k p e R s m args below meth c H locs cells slots Q ls hC hP hS hl hR)
theorem gd_iadd {u v : Int} (hd : decode (mB mi) pc = .ok (.iadd, 1)) (k : Gd l dC dI al cyC cyI cyO rho A Ln xs mi KK (pc + 1) (L) (.inl (u + v) :: st) (S)) : Gd l dC dI al cyC cyI cyO rho A Ln xs mi KK pc (L) (.inl v :: .inl u :: st) (S) := by
  intro p e R s m args below meth c H locs cells slots Q ls hC hP hS hl hR
  obtain ⟨hx, hb, hml, hown, hts, hSt, hf, hlo, hcs, hss, hAD⟩ := id hC
  refine lv_iadd hx hb hd  ?_
  rw [← Int32.ofInt_add]
  exact k p e R s m args below meth c H locs cells slots Q ls hC hP hS hl hR
theorem gd_isub {u v : Int} (hd : decode (mB mi) pc = .ok (.isub, 1)) (k : Gd l dC dI al cyC cyI cyO rho A Ln xs mi KK (pc + 1) (L) (.inl (u - v) :: st) (S)) : Gd l dC dI al cyC cyI cyO rho A Ln xs mi KK pc (L) (.inl v :: .inl u :: st) (S) := by
  intro p e R s m args below meth c H locs cells slots Q ls hC hP hS hl hR
  obtain ⟨hx, hb, hml, hown, hts, hSt, hf, hlo, hcs, hss, hAD⟩ := id hC
  refine lv_isub hx hb hd  ?_
  rw [← Int32.ofInt_sub]
  exact k p e R s m args below meth c H locs cells slots Q ls hC hP hS hl hR
theorem gd_imul {u v : Int} (hd : decode (mB mi) pc = .ok (.imul, 1)) (k : Gd l dC dI al cyC cyI cyO rho A Ln xs mi KK (pc + 1) (L) (.inl (u * v) :: st) (S)) : Gd l dC dI al cyC cyI cyO rho A Ln xs mi KK pc (L) (.inl v :: .inl u :: st) (S) := by
  intro p e R s m args below meth c H locs cells slots Q ls hC hP hS hl hR
  obtain ⟨hx, hb, hml, hown, hts, hSt, hf, hlo, hcs, hss, hAD⟩ := id hC
  refine lv_imul hx hb hd  ?_
  rw [← Int32.ofInt_mul]
  exact k p e R s m args below meth c H locs cells slots Q ls hC hP hS hl hR
theorem gd_idiv {u v : Int} (hd : decode (mB mi) pc = .ok (.idiv, 1)) (hy : 0 ≤ u ∧ u < 2147483648 ∧ 0 < v ∧ v < 2147483648) (k : Gd l dC dI al cyC cyI cyO rho A Ln xs mi KK (pc + 1) (L) (.inl (u / v) :: st) (S)) : Gd l dC dI al cyC cyI cyO rho A Ln xs mi KK pc (L) (.inl v :: .inl u :: st) (S) := by
  intro p e R s m args below meth c H locs cells slots Q ls hC hP hS hl hR
  obtain ⟨hx, hb, hml, hown, hts, hSt, hf, hlo, hcs, hss, hAD⟩ := id hC
  refine lv_idiv hx hb hd (oi_ne0 hy.2.2.1 hy.2.2.2) ?_
  rw [oi_div hy]
  exact k p e R s m args below meth c H locs cells slots Q ls hC hP hS hl hR
theorem gd_irem {u v : Int} (hd : decode (mB mi) pc = .ok (.irem, 1)) (hy : 0 ≤ u ∧ u < 2147483648 ∧ 0 < v ∧ v < 2147483648) (k : Gd l dC dI al cyC cyI cyO rho A Ln xs mi KK (pc + 1) (L) (.inl (u % v) :: st) (S)) : Gd l dC dI al cyC cyI cyO rho A Ln xs mi KK pc (L) (.inl v :: .inl u :: st) (S) := by
  intro p e R s m args below meth c H locs cells slots Q ls hC hP hS hl hR
  obtain ⟨hx, hb, hml, hown, hts, hSt, hf, hlo, hcs, hss, hAD⟩ := id hC
  refine lv_irem hx hb hd (oi_ne0 hy.2.2.1 hy.2.2.2) ?_
  rw [oi_rem hy]
  exact k p e R s m args below meth c H locs cells slots Q ls hC hP hS hl hR
theorem gd_iand {u v : Int} (hd : decode (mB mi) pc = .ok (.iand, 1)) (k : Gd l dC dI al cyC cyI cyO rho A Ln xs mi KK (pc + 1) (L) (.inl (bAnd u v) :: st) (S)) : Gd l dC dI al cyC cyI cyO rho A Ln xs mi KK pc (L) (.inl v :: .inl u :: st) (S) := by
  intro p e R s m args below meth c H locs cells slots Q ls hC hP hS hl hR
  obtain ⟨hx, hb, hml, hown, hts, hSt, hf, hlo, hcs, hss, hAD⟩ := id hC
  refine lv_iand hx hb hd  ?_
  rw [oi_and]
  exact k p e R s m args below meth c H locs cells slots Q ls hC hP hS hl hR
theorem gd_ior {u v : Int} (hd : decode (mB mi) pc = .ok (.ior, 1)) (k : Gd l dC dI al cyC cyI cyO rho A Ln xs mi KK (pc + 1) (L) (.inl (bOr u v) :: st) (S)) : Gd l dC dI al cyC cyI cyO rho A Ln xs mi KK pc (L) (.inl v :: .inl u :: st) (S) := by
  intro p e R s m args below meth c H locs cells slots Q ls hC hP hS hl hR
  obtain ⟨hx, hb, hml, hown, hts, hSt, hf, hlo, hcs, hss, hAD⟩ := id hC
  refine lv_ior hx hb hd  ?_
  rw [oi_or]
  exact k p e R s m args below meth c H locs cells slots Q ls hC hP hS hl hR
theorem gd_ixor {u v : Int} (hd : decode (mB mi) pc = .ok (.ixor, 1)) (k : Gd l dC dI al cyC cyI cyO rho A Ln xs mi KK (pc + 1) (L) (.inl (bXor u v) :: st) (S)) : Gd l dC dI al cyC cyI cyO rho A Ln xs mi KK pc (L) (.inl v :: .inl u :: st) (S) := by
  intro p e R s m args below meth c H locs cells slots Q ls hC hP hS hl hR
  obtain ⟨hx, hb, hml, hown, hts, hSt, hf, hlo, hcs, hss, hAD⟩ := id hC
  refine lv_ixor hx hb hd  ?_
  rw [oi_xor]
  exact k p e R s m args below meth c H locs cells slots Q ls hC hP hS hl hR
theorem gd_ishl {u v : Int} (hd : decode (mB mi) pc = .ok (.ishl, 1)) (hy : 0 ≤ v ∧ v < 32 ∧ 0 ≤ u ∧ u * 2 ^ v.toNat < 2147483648) (k : Gd l dC dI al cyC cyI cyO rho A Ln xs mi KK (pc + 1) (L) (.inl (u * 2 ^ v.toNat) :: st) (S)) : Gd l dC dI al cyC cyI cyO rho A Ln xs mi KK pc (L) (.inl v :: .inl u :: st) (S) := by
  intro p e R s m args below meth c H locs cells slots Q ls hC hP hS hl hR
  obtain ⟨hx, hb, hml, hown, hts, hSt, hf, hlo, hcs, hss, hAD⟩ := id hC
  refine lv_ishl hx hb hd  ?_
  rw [oi_shl hy]
  exact k p e R s m args below meth c H locs cells slots Q ls hC hP hS hl hR
theorem gd_ishr {u v : Int} (hd : decode (mB mi) pc = .ok (.ishr, 1)) (hy : 0 ≤ v ∧ v < 32 ∧ -2147483648 ≤ u ∧ u < 2147483648) (k : Gd l dC dI al cyC cyI cyO rho A Ln xs mi KK (pc + 1) (L) (.inl (u / 2 ^ v.toNat) :: st) (S)) : Gd l dC dI al cyC cyI cyO rho A Ln xs mi KK pc (L) (.inl v :: .inl u :: st) (S) := by
  intro p e R s m args below meth c H locs cells slots Q ls hC hP hS hl hR
  obtain ⟨hx, hb, hml, hown, hts, hSt, hf, hlo, hcs, hss, hAD⟩ := id hC
  refine lv_ishr hx hb hd  ?_
  rw [oi_shr hy]
  exact k p e R s m args below meth c H locs cells slots Q ls hC hP hS hl hR
theorem gd_iushr {u v : Int} (hd : decode (mB mi) pc = .ok (.iushr, 1)) (hy : 0 ≤ v ∧ v < 32 ∧ 0 ≤ u ∧ u < 2147483648) (k : Gd l dC dI al cyC cyI cyO rho A Ln xs mi KK (pc + 1) (L) (.inl (u / 2 ^ v.toNat) :: st) (S)) : Gd l dC dI al cyC cyI cyO rho A Ln xs mi KK pc (L) (.inl v :: .inl u :: st) (S) := by
  intro p e R s m args below meth c H locs cells slots Q ls hC hP hS hl hR
  obtain ⟨hx, hb, hml, hown, hts, hSt, hf, hlo, hcs, hss, hAD⟩ := id hC
  exact lv_iushr hx hb hd (oi_ushr hy) (k p e R s m args below meth c H locs cells slots Q ls hC hP hS hl hR)
theorem gd_i2c {u : Int} (hd : decode (mB mi) pc = .ok (.i2c, 1)) (k : Gd l dC dI al cyC cyI cyO rho A Ln xs mi KK (pc + 1) (L) (.inl (u % 65536) :: st) (S)) : Gd l dC dI al cyC cyI cyO rho A Ln xs mi KK pc (L) (.inl u :: st) (S) := by
  intro p e R s m args below meth c H locs cells slots Q ls hC hP hS hl hR
  obtain ⟨hx, hb, hml, hown, hts, hSt, hf, hlo, hcs, hss, hAD⟩ := id hC
  exact lv_i2c hx hb hd (oi_char u) (k p e R s m args below meth c H locs cells slots Q ls hC hP hS hl hR)
theorem gd_dup {v : MV} (hd : decode (mB mi) pc = .ok (.dup, 1)) (k : Gd l dC dI al cyC cyI cyO rho A Ln xs mi KK (pc + 1) (L) (v :: v :: st) (S)) : Gd l dC dI al cyC cyI cyO rho A Ln xs mi KK pc (L) (v :: st) (S) := by
  intro p e R s m args below meth c H locs cells slots Q ls hC hP hS hl hR
  obtain ⟨hx, hb, hml, hown, hts, hSt, hf, hlo, hcs, hss, hAD⟩ := id hC
  exact lv_dup hx hb hd (cvv_cat rho v) (k p e R s m args below meth c H locs cells slots Q ls hC hP hS hl hR)
theorem gd_dup2 {u v : MV} (hd : decode (mB mi) pc = .ok (.dup2, 1)) (k : Gd l dC dI al cyC cyI cyO rho A Ln xs mi KK (pc + 1) (L) (v :: u :: v :: u :: st) (S)) : Gd l dC dI al cyC cyI cyO rho A Ln xs mi KK pc (L) (v :: u :: st) (S) := by
  intro p e R s m args below meth c H locs cells slots Q ls hC hP hS hl hR
  obtain ⟨hx, hb, hml, hown, hts, hSt, hf, hlo, hcs, hss, hAD⟩ := id hC
  exact lv_dup2_11 hx hb hd (cvv_cat rho v) (cvv_cat rho u) (k p e R s m args below meth c H locs cells slots Q ls hC hP hS hl hR)
theorem gd_pop {v : MV} (hd : decode (mB mi) pc = .ok (.pop, 1)) (k : Gd l dC dI al cyC cyI cyO rho A Ln xs mi KK (pc + 1) (L) (st) (S)) : Gd l dC dI al cyC cyI cyO rho A Ln xs mi KK pc (L) (v :: st) (S) := by
  intro p e R s m args below meth c H locs cells slots Q ls hC hP hS hl hR
  obtain ⟨hx, hb, hml, hown, hts, hSt, hf, hlo, hcs, hss, hAD⟩ := id hC
  exact lv_pop hx hb hd (cvv_cat rho v) (k p e R s m args below meth c H locs cells slots Q ls hC hP hS hl hR)
theorem gd_goto {i : Int} {tg : Nat} (hd : decode (mB mi) pc = .ok (.goto i, 3)) (ht : (pc : Int) + i = (tg : Nat)) (k : Gd l dC dI al cyC cyI cyO rho A Ln xs mi KK (tg) (L) (st) (S)) : Gd l dC dI al cyC cyI cyO rho A Ln xs mi KK pc (L) (st) (S) := by
  intro p e R s m args below meth c H locs cells slots Q ls hC hP hS hl hR
  obtain ⟨hx, hb, hml, hown, hts, hSt, hf, hlo, hcs, hss, hAD⟩ := id hC
  exact lv_goto hx hb hd ht (k p e R s m args below meth c H locs cells slots Q ls hC hP hS hl hR)
theorem gd_icmp_eq_t {i : Int} {tg : Nat} {u v : Int} (hd : decode (mB mi) pc = .ok (.if_icmp .eq i, 3)) (ht : (pc : Int) + i = (tg : Nat)) (hc : u = v) (k : Gd l dC dI al cyC cyI cyO rho A Ln xs mi KK (tg) (L) (st) (S)) : Gd l dC dI al cyC cyI cyO rho A Ln xs mi KK pc (L) (.inl v :: .inl u :: st) (S) := by
  intro p e R s m args below meth c H locs cells slots Q ls hC hP hS hl hR
  obtain ⟨hx, hb, hml, hown, hts, hSt, hf, hlo, hcs, hss, hAD⟩ := id hC
  exact lv_icmp_eq hx hb hd ht (fun _ => k p e R s m args below meth c H locs cells slots Q ls hC hP hS hl hR) (fun q => absurd (by first | exact congrArg Int32.ofInt hc | (rw [hc]; rfl)) q)
theorem gd_if_eq_t {i : Int} {tg : Nat} {u : Int} (hd : decode (mB mi) pc = .ok (.ifCond .eq i, 3)) (ht : (pc : Int) + i = (tg : Nat)) (hc : u = 0) (k : Gd l dC dI al cyC cyI cyO rho A Ln xs mi KK (tg) (L) (st) (S)) : Gd l dC dI al cyC cyI cyO rho A Ln xs mi KK pc (L) (.inl u :: st) (S) := by
  intro p e R s m args below meth c H locs cells slots Q ls hC hP hS hl hR
  obtain ⟨hx, hb, hml, hown, hts, hSt, hf, hlo, hcs, hss, hAD⟩ := id hC
  exact lv_if_eq hx hb hd ht (fun _ => k p e R s m args below meth c H locs cells slots Q ls hC hP hS hl hR) (fun q => absurd (by first | exact congrArg Int32.ofInt hc | (rw [hc]; rfl)) q)
theorem gd_icmp_eq_f {i : Int} {tg : Nat} {u v : Int} (hd : decode (mB mi) pc = .ok (.if_icmp .eq i, 3)) (ht : (pc : Int) + i = (tg : Nat)) (hc : ¬ (u = v)) (hr : inR u ∧ inR v) (k : Gd l dC dI al cyC cyI cyO rho A Ln xs mi KK (pc + 3) (L) (st) (S)) : Gd l dC dI al cyC cyI cyO rho A Ln xs mi KK pc (L) (.inl v :: .inl u :: st) (S) := by
  intro p e R s m args below meth c H locs cells slots Q ls hC hP hS hl hR
  obtain ⟨hx, hb, hml, hown, hts, hSt, hf, hlo, hcs, hss, hAD⟩ := id hC
  have hq : ¬ (u = v) := by omega
  exact lv_icmp_eq hx hb hd ht (fun q => absurd ((oi_eq hr.1 hr.2).mp q) hq) (fun _ => k p e R s m args below meth c H locs cells slots Q ls hC hP hS hl hR)
theorem gd_if_eq_f {i : Int} {tg : Nat} {u : Int} (hd : decode (mB mi) pc = .ok (.ifCond .eq i, 3)) (ht : (pc : Int) + i = (tg : Nat)) (hc : ¬ (u = 0)) (hr : inR u ∧ inR 0) (k : Gd l dC dI al cyC cyI cyO rho A Ln xs mi KK (pc + 3) (L) (st) (S)) : Gd l dC dI al cyC cyI cyO rho A Ln xs mi KK pc (L) (.inl u :: st) (S) := by
  intro p e R s m args below meth c H locs cells slots Q ls hC hP hS hl hR
  obtain ⟨hx, hb, hml, hown, hts, hSt, hf, hlo, hcs, hss, hAD⟩ := id hC
  have hq : ¬ (u = 0) := by omega
  exact lv_if_eq hx hb hd ht (fun q => absurd ((oi_eq hr.1 hr.2 : Int32.ofInt u = Int32.ofInt 0 ↔ u = 0).mp q) hq) (fun _ => k p e R s m args below meth c H locs cells slots Q ls hC hP hS hl hR)
theorem gd_icmp_ne_t {i : Int} {tg : Nat} {u v : Int} (hd : decode (mB mi) pc = .ok (.if_icmp .ne i, 3)) (ht : (pc : Int) + i = (tg : Nat)) (hc : ¬ u = v) (hr : inR u ∧ inR v) (k : Gd l dC dI al cyC cyI cyO rho A Ln xs mi KK (tg) (L) (st) (S)) : Gd l dC dI al cyC cyI cyO rho A Ln xs mi KK pc (L) (.inl v :: .inl u :: st) (S) := by
  intro p e R s m args below meth c H locs cells slots Q ls hC hP hS hl hR
  obtain ⟨hx, hb, hml, hown, hts, hSt, hf, hlo, hcs, hss, hAD⟩ := id hC
  have hq : ¬ (u = v) := by omega
  exact lv_icmp_ne hx hb hd ht (fun _ => k p e R s m args below meth c H locs cells slots Q ls hC hP hS hl hR) (fun q => absurd ((oi_eq hr.1 hr.2).mp q) hq)
theorem gd_if_ne_t {i : Int} {tg : Nat} {u : Int} (hd : decode (mB mi) pc = .ok (.ifCond .ne i, 3)) (ht : (pc : Int) + i = (tg : Nat)) (hc : ¬ u = 0) (hr : inR u ∧ inR 0) (k : Gd l dC dI al cyC cyI cyO rho A Ln xs mi KK (tg) (L) (st) (S)) : Gd l dC dI al cyC cyI cyO rho A Ln xs mi KK pc (L) (.inl u :: st) (S) := by
  intro p e R s m args below meth c H locs cells slots Q ls hC hP hS hl hR
  obtain ⟨hx, hb, hml, hown, hts, hSt, hf, hlo, hcs, hss, hAD⟩ := id hC
  have hq : ¬ (u = 0) := by omega
  exact lv_if_ne hx hb hd ht (fun _ => k p e R s m args below meth c H locs cells slots Q ls hC hP hS hl hR) (fun q => absurd ((oi_eq hr.1 hr.2 : Int32.ofInt u = Int32.ofInt 0 ↔ u = 0).mp q) hq)
theorem gd_icmp_ne_f {i : Int} {tg : Nat} {u v : Int} (hd : decode (mB mi) pc = .ok (.if_icmp .ne i, 3)) (ht : (pc : Int) + i = (tg : Nat)) (hc : ¬ (¬ u = v)) (k : Gd l dC dI al cyC cyI cyO rho A Ln xs mi KK (pc + 3) (L) (st) (S)) : Gd l dC dI al cyC cyI cyO rho A Ln xs mi KK pc (L) (.inl v :: .inl u :: st) (S) := by
  intro p e R s m args below meth c H locs cells slots Q ls hC hP hS hl hR
  obtain ⟨hx, hb, hml, hown, hts, hSt, hf, hlo, hcs, hss, hAD⟩ := id hC
  exact lv_icmp_ne hx hb hd ht (fun q => absurd (by first | exact congrArg Int32.ofInt (Classical.not_not.mp hc) | (rw [Classical.not_not.mp hc]; rfl)) q) (fun _ => k p e R s m args below meth c H locs cells slots Q ls hC hP hS hl hR)
theorem gd_if_ne_f {i : Int} {tg : Nat} {u : Int} (hd : decode (mB mi) pc = .ok (.ifCond .ne i, 3)) (ht : (pc : Int) + i = (tg : Nat)) (hc : ¬ (¬ u = 0)) (k : Gd l dC dI al cyC cyI cyO rho A Ln xs mi KK (pc + 3) (L) (st) (S)) : Gd l dC dI al cyC cyI cyO rho A Ln xs mi KK pc (L) (.inl u :: st) (S) := by
  intro p e R s m args below meth c H locs cells slots Q ls hC hP hS hl hR
  obtain ⟨hx, hb, hml, hown, hts, hSt, hf, hlo, hcs, hss, hAD⟩ := id hC
  exact lv_if_ne hx hb hd ht (fun q => absurd (by first | exact congrArg Int32.ofInt (Classical.not_not.mp hc) | (rw [Classical.not_not.mp hc]; rfl)) q) (fun _ => k p e R s m args below meth c H locs cells slots Q ls hC hP hS hl hR)
theorem gd_icmp_lt_t {i : Int} {tg : Nat} {u v : Int} (hd : decode (mB mi) pc = .ok (.if_icmp .lt i, 3)) (ht : (pc : Int) + i = (tg : Nat)) (hc : u < v) (hr : inR u ∧ inR v) (k : Gd l dC dI al cyC cyI cyO rho A Ln xs mi KK (tg) (L) (st) (S)) : Gd l dC dI al cyC cyI cyO rho A Ln xs mi KK pc (L) (.inl v :: .inl u :: st) (S) := by
  intro p e R s m args below meth c H locs cells slots Q ls hC hP hS hl hR
  obtain ⟨hx, hb, hml, hown, hts, hSt, hf, hlo, hcs, hss, hAD⟩ := id hC
  have hq : u < v := by omega
  exact lv_icmp_lt hx hb hd ht (fun _ => k p e R s m args below meth c H locs cells slots Q ls hC hP hS hl hR) (fun q => absurd ((oi_lt hr.1 hr.2).mpr hq) q)
theorem gd_if_lt_t {i : Int} {tg : Nat} {u : Int} (hd : decode (mB mi) pc = .ok (.ifCond .lt i, 3)) (ht : (pc : Int) + i = (tg : Nat)) (hc : u < 0) (hr : inR u ∧ inR 0) (k : Gd l dC dI al cyC cyI cyO rho A Ln xs mi KK (tg) (L) (st) (S)) : Gd l dC dI al cyC cyI cyO rho A Ln xs mi KK pc (L) (.inl u :: st) (S) := by
  intro p e R s m args below meth c H locs cells slots Q ls hC hP hS hl hR
  obtain ⟨hx, hb, hml, hown, hts, hSt, hf, hlo, hcs, hss, hAD⟩ := id hC
  have hq : u < 0 := by omega
  exact lv_if_lt hx hb hd ht (fun _ => k p e R s m args below meth c H locs cells slots Q ls hC hP hS hl hR) (fun q => absurd ((oi_lt hr.1 hr.2 : Int32.ofInt u < Int32.ofInt 0 ↔ u < 0).mpr hq) q)
theorem gd_icmp_lt_f {i : Int} {tg : Nat} {u v : Int} (hd : decode (mB mi) pc = .ok (.if_icmp .lt i, 3)) (ht : (pc : Int) + i = (tg : Nat)) (hc : ¬ (u < v)) (hr : inR u ∧ inR v) (k : Gd l dC dI al cyC cyI cyO rho A Ln xs mi KK (pc + 3) (L) (st) (S)) : Gd l dC dI al cyC cyI cyO rho A Ln xs mi KK pc (L) (.inl v :: .inl u :: st) (S) := by
  intro p e R s m args below meth c H locs cells slots Q ls hC hP hS hl hR
  obtain ⟨hx, hb, hml, hown, hts, hSt, hf, hlo, hcs, hss, hAD⟩ := id hC
  have hq : ¬ (u < v) := by omega
  exact lv_icmp_lt hx hb hd ht (fun q => absurd ((oi_lt hr.1 hr.2).mp q) hq) (fun _ => k p e R s m args below meth c H locs cells slots Q ls hC hP hS hl hR)
theorem gd_if_lt_f {i : Int} {tg : Nat} {u : Int} (hd : decode (mB mi) pc = .ok (.ifCond .lt i, 3)) (ht : (pc : Int) + i = (tg : Nat)) (hc : ¬ (u < 0)) (hr : inR u ∧ inR 0) (k : Gd l dC dI al cyC cyI cyO rho A Ln xs mi KK (pc + 3) (L) (st) (S)) : Gd l dC dI al cyC cyI cyO rho A Ln xs mi KK pc (L) (.inl u :: st) (S) := by
  intro p e R s m args below meth c H locs cells slots Q ls hC hP hS hl hR
  obtain ⟨hx, hb, hml, hown, hts, hSt, hf, hlo, hcs, hss, hAD⟩ := id hC
  have hq : ¬ (u < 0) := by omega
  exact lv_if_lt hx hb hd ht (fun q => absurd ((oi_lt hr.1 hr.2 : Int32.ofInt u < Int32.ofInt 0 ↔ u < 0).mp q) hq) (fun _ => k p e R s m args below meth c H locs cells slots Q ls hC hP hS hl hR)
theorem gd_icmp_ge_t {i : Int} {tg : Nat} {u v : Int} (hd : decode (mB mi) pc = .ok (.if_icmp .ge i, 3)) (ht : (pc : Int) + i = (tg : Nat)) (hc : ¬ u < v) (hr : inR u ∧ inR v) (k : Gd l dC dI al cyC cyI cyO rho A Ln xs mi KK (tg) (L) (st) (S)) : Gd l dC dI al cyC cyI cyO rho A Ln xs mi KK pc (L) (.inl v :: .inl u :: st) (S) := by
  intro p e R s m args below meth c H locs cells slots Q ls hC hP hS hl hR
  obtain ⟨hx, hb, hml, hown, hts, hSt, hf, hlo, hcs, hss, hAD⟩ := id hC
  have hq : v ≤ u := by omega
  exact lv_icmp_ge hx hb hd ht (fun _ => k p e R s m args below meth c H locs cells slots Q ls hC hP hS hl hR) (fun q => absurd ((oi_le hr.2 hr.1).mpr hq) q)
theorem gd_if_ge_t {i : Int} {tg : Nat} {u : Int} (hd : decode (mB mi) pc = .ok (.ifCond .ge i, 3)) (ht : (pc : Int) + i = (tg : Nat)) (hc : ¬ u < 0) (hr : inR u ∧ inR 0) (k : Gd l dC dI al cyC cyI cyO rho A Ln xs mi KK (tg) (L) (st) (S)) : Gd l dC dI al cyC cyI cyO rho A Ln xs mi KK pc (L) (.inl u :: st) (S) := by
  intro p e R s m args below meth c H locs cells slots Q ls hC hP hS hl hR
  obtain ⟨hx, hb, hml, hown, hts, hSt, hf, hlo, hcs, hss, hAD⟩ := id hC
  have hq : 0 ≤ u := by omega
  exact lv_if_ge hx hb hd ht (fun _ => k p e R s m args below meth c H locs cells slots Q ls hC hP hS hl hR) (fun q => absurd ((oi_le hr.2 hr.1 : Int32.ofInt 0 ≤ Int32.ofInt u ↔ 0 ≤ u).mpr hq) q)
theorem gd_icmp_ge_f {i : Int} {tg : Nat} {u v : Int} (hd : decode (mB mi) pc = .ok (.if_icmp .ge i, 3)) (ht : (pc : Int) + i = (tg : Nat)) (hc : ¬ (¬ u < v)) (hr : inR u ∧ inR v) (k : Gd l dC dI al cyC cyI cyO rho A Ln xs mi KK (pc + 3) (L) (st) (S)) : Gd l dC dI al cyC cyI cyO rho A Ln xs mi KK pc (L) (.inl v :: .inl u :: st) (S) := by
  intro p e R s m args below meth c H locs cells slots Q ls hC hP hS hl hR
  obtain ⟨hx, hb, hml, hown, hts, hSt, hf, hlo, hcs, hss, hAD⟩ := id hC
  have hq : ¬ (v ≤ u) := by omega
  exact lv_icmp_ge hx hb hd ht (fun q => absurd ((oi_le hr.2 hr.1).mp q) hq) (fun _ => k p e R s m args below meth c H locs cells slots Q ls hC hP hS hl hR)
theorem gd_if_ge_f {i : Int} {tg : Nat} {u : Int} (hd : decode (mB mi) pc = .ok (.ifCond .ge i, 3)) (ht : (pc : Int) + i = (tg : Nat)) (hc : ¬ (¬ u < 0)) (hr : inR u ∧ inR 0) (k : Gd l dC dI al cyC cyI cyO rho A Ln xs mi KK (pc + 3) (L) (st) (S)) : Gd l dC dI al cyC cyI cyO rho A Ln xs mi KK pc (L) (.inl u :: st) (S) := by
  intro p e R s m args below meth c H locs cells slots Q ls hC hP hS hl hR
  obtain ⟨hx, hb, hml, hown, hts, hSt, hf, hlo, hcs, hss, hAD⟩ := id hC
  have hq : ¬ (0 ≤ u) := by omega
  exact lv_if_ge hx hb hd ht (fun q => absurd ((oi_le hr.2 hr.1 : Int32.ofInt 0 ≤ Int32.ofInt u ↔ 0 ≤ u).mp q) hq) (fun _ => k p e R s m args below meth c H locs cells slots Q ls hC hP hS hl hR)
theorem gd_icmp_gt_t {i : Int} {tg : Nat} {u v : Int} (hd : decode (mB mi) pc = .ok (.if_icmp .gt i, 3)) (ht : (pc : Int) + i = (tg : Nat)) (hc : v < u) (hr : inR u ∧ inR v) (k : Gd l dC dI al cyC cyI cyO rho A Ln xs mi KK (tg) (L) (st) (S)) : Gd l dC dI al cyC cyI cyO rho A Ln xs mi KK pc (L) (.inl v :: .inl u :: st) (S) := by
  intro p e R s m args below meth c H locs cells slots Q ls hC hP hS hl hR
  obtain ⟨hx, hb, hml, hown, hts, hSt, hf, hlo, hcs, hss, hAD⟩ := id hC
  have hq : v < u := by omega
  exact lv_icmp_gt hx hb hd ht (fun _ => k p e R s m args below meth c H locs cells slots Q ls hC hP hS hl hR) (fun q => absurd ((oi_lt hr.2 hr.1).mpr hq) q)
theorem gd_if_gt_t {i : Int} {tg : Nat} {u : Int} (hd : decode (mB mi) pc = .ok (.ifCond .gt i, 3)) (ht : (pc : Int) + i = (tg : Nat)) (hc : 0 < u) (hr : inR u ∧ inR 0) (k : Gd l dC dI al cyC cyI cyO rho A Ln xs mi KK (tg) (L) (st) (S)) : Gd l dC dI al cyC cyI cyO rho A Ln xs mi KK pc (L) (.inl u :: st) (S) := by
  intro p e R s m args below meth c H locs cells slots Q ls hC hP hS hl hR
  obtain ⟨hx, hb, hml, hown, hts, hSt, hf, hlo, hcs, hss, hAD⟩ := id hC
  have hq : 0 < u := by omega
  exact lv_if_gt hx hb hd ht (fun _ => k p e R s m args below meth c H locs cells slots Q ls hC hP hS hl hR) (fun q => absurd ((oi_lt hr.2 hr.1 : Int32.ofInt 0 < Int32.ofInt u ↔ 0 < u).mpr hq) q)
theorem gd_icmp_gt_f {i : Int} {tg : Nat} {u v : Int} (hd : decode (mB mi) pc = .ok (.if_icmp .gt i, 3)) (ht : (pc : Int) + i = (tg : Nat)) (hc : ¬ (v < u)) (hr : inR u ∧ inR v) (k : Gd l dC dI al cyC cyI cyO rho A Ln xs mi KK (pc + 3) (L) (st) (S)) : Gd l dC dI al cyC cyI cyO rho A Ln xs mi KK pc (L) (.inl v :: .inl u :: st) (S) := by
  intro p e R s m args below meth c H locs cells slots Q ls hC hP hS hl hR
  obtain ⟨hx, hb, hml, hown, hts, hSt, hf, hlo, hcs, hss, hAD⟩ := id hC
  have hq : ¬ (v < u) := by omega
  exact lv_icmp_gt hx hb hd ht (fun q => absurd ((oi_lt hr.2 hr.1).mp q) hq) (fun _ => k p e R s m args below meth c H locs cells slots Q ls hC hP hS hl hR)
theorem gd_if_gt_f {i : Int} {tg : Nat} {u : Int} (hd : decode (mB mi) pc = .ok (.ifCond .gt i, 3)) (ht : (pc : Int) + i = (tg : Nat)) (hc : ¬ (0 < u)) (hr : inR u ∧ inR 0) (k : Gd l dC dI al cyC cyI cyO rho A Ln xs mi KK (pc + 3) (L) (st) (S)) : Gd l dC dI al cyC cyI cyO rho A Ln xs mi KK pc (L) (.inl u :: st) (S) := by
  intro p e R s m args below meth c H locs cells slots Q ls hC hP hS hl hR
  obtain ⟨hx, hb, hml, hown, hts, hSt, hf, hlo, hcs, hss, hAD⟩ := id hC
  have hq : ¬ (0 < u) := by omega
  exact lv_if_gt hx hb hd ht (fun q => absurd ((oi_lt hr.2 hr.1 : Int32.ofInt 0 < Int32.ofInt u ↔ 0 < u).mp q) hq) (fun _ => k p e R s m args below meth c H locs cells slots Q ls hC hP hS hl hR)
theorem gd_icmp_le_t {i : Int} {tg : Nat} {u v : Int} (hd : decode (mB mi) pc = .ok (.if_icmp .le i, 3)) (ht : (pc : Int) + i = (tg : Nat)) (hc : ¬ v < u) (hr : inR u ∧ inR v) (k : Gd l dC dI al cyC cyI cyO rho A Ln xs mi KK (tg) (L) (st) (S)) : Gd l dC dI al cyC cyI cyO rho A Ln xs mi KK pc (L) (.inl v :: .inl u :: st) (S) := by
  intro p e R s m args below meth c H locs cells slots Q ls hC hP hS hl hR
  obtain ⟨hx, hb, hml, hown, hts, hSt, hf, hlo, hcs, hss, hAD⟩ := id hC
  have hq : u ≤ v := by omega
  exact lv_icmp_le hx hb hd ht (fun _ => k p e R s m args below meth c H locs cells slots Q ls hC hP hS hl hR) (fun q => absurd ((oi_le hr.1 hr.2).mpr hq) q)
theorem gd_if_le_t {i : Int} {tg : Nat} {u : Int} (hd : decode (mB mi) pc = .ok (.ifCond .le i, 3)) (ht : (pc : Int) + i = (tg : Nat)) (hc : ¬ 0 < u) (hr : inR u ∧ inR 0) (k : Gd l dC dI al cyC cyI cyO rho A Ln xs mi KK (tg) (L) (st) (S)) : Gd l dC dI al cyC cyI cyO rho A Ln xs mi KK pc (L) (.inl u :: st) (S) := by
  intro p e R s m args below meth c H locs cells slots Q ls hC hP hS hl hR
  obtain ⟨hx, hb, hml, hown, hts, hSt, hf, hlo, hcs, hss, hAD⟩ := id hC
  have hq : u ≤ 0 := by omega
  exact lv_if_le hx hb hd ht (fun _ => k p e R s m args below meth c H locs cells slots Q ls hC hP hS hl hR) (fun q => absurd ((oi_le hr.1 hr.2 : Int32.ofInt u ≤ Int32.ofInt 0 ↔ u ≤ 0).mpr hq) q)
theorem gd_icmp_le_f {i : Int} {tg : Nat} {u v : Int} (hd : decode (mB mi) pc = .ok (.if_icmp .le i, 3)) (ht : (pc : Int) + i = (tg : Nat)) (hc : ¬ (¬ v < u)) (hr : inR u ∧ inR v) (k : Gd l dC dI al cyC cyI cyO rho A Ln xs mi KK (pc + 3) (L) (st) (S)) : Gd l dC dI al cyC cyI cyO rho A Ln xs mi KK pc (L) (.inl v :: .inl u :: st) (S) := by
  intro p e R s m args below meth c H locs cells slots Q ls hC hP hS hl hR
  obtain ⟨hx, hb, hml, hown, hts, hSt, hf, hlo, hcs, hss, hAD⟩ := id hC
  have hq : ¬ (u ≤ v) := by omega
  exact lv_icmp_le hx hb hd ht (fun q => absurd ((oi_le hr.1 hr.2).mp q) hq) (fun _ => k p e R s m args below meth c H locs cells slots Q ls hC hP hS hl hR)
theorem gd_if_le_f {i : Int} {tg : Nat} {u : Int} (hd : decode (mB mi) pc = .ok (.ifCond .le i, 3)) (ht : (pc : Int) + i = (tg : Nat)) (hc : ¬ (¬ 0 < u)) (hr : inR u ∧ inR 0) (k : Gd l dC dI al cyC cyI cyO rho A Ln xs mi KK (pc + 3) (L) (st) (S)) : Gd l dC dI al cyC cyI cyO rho A Ln xs mi KK pc (L) (.inl u :: st) (S) := by
  intro p e R s m args below meth c H locs cells slots Q ls hC hP hS hl hR
  obtain ⟨hx, hb, hml, hown, hts, hSt, hf, hlo, hcs, hss, hAD⟩ := id hC
  have hq : ¬ (u ≤ 0) := by omega
  exact lv_if_le hx hb hd ht (fun q => absurd ((oi_le hr.1 hr.2 : Int32.ofInt u ≤ Int32.ofInt 0 ↔ u ≤ 0).mp q) hq) (fun _ => k p e R s m args below meth c H locs cells slots Q ls hC hP hS hl hR)
end SND
end
section
/-! THE SMALL MACHINE IS TRUE: fields, arrays, switches, returns -/
theorem ob_ok : ∀ c, c < 36 → kT c = 1 → vwCl[kN c]? = some (oR c, oT c, (kF c).length) ∧ ((u_ws (oR c) (oT c) (kF c).length).all (fun w => decide (w ∈ lw_tbl) && goodWord w)) = true ∧ (∀ k, k < (kF c).length → parseFieldDescriptor (oT c k).2.2.1 = some (oTy c k)) ∧ (∀ a, a < (kF c).length → ∀ b, b < (kF c).length → a ≠ b → (oT c a).2.1 ≠ (oT c b).2.1) := by
  have key : ∀ c ∈ [0, 2, 5, 9, 18, 21, 23, 25], ((u_ws (oR c) (oT c) (kF c).length).all (fun w => decide (w ∈ lw_tbl) && goodWord w)) = true ∧ (∀ k, k < (kF c).length → parseFieldDescriptor (oT c k).2.2.1 = some (oTy c k)) ∧ (∀ a, a < (kF c).length → ∀ b, b < (kF c).length → a ≠ b → (oT c a).2.1 ≠ (oT c b).2.1) := by decide +kernel
  have hm : ∀ c, c < 36 → kT c = 1 → c ∈ [0, 2, 5, 9, 18, 21, 23, 25] := by decide +kernel
  intro c hc h1
  refine ⟨?_, key c (hm c hc h1)⟩
  have h2 := hm c hc h1
  simp only [List.mem_cons, List.not_mem_nil, or_false] at h2
  rcases h2 with rfl | rfl | rfl | rfl | rfl | rfl | rfl | rfl <;> rfl
theorem ob_in {c : Nat} (hc : c < 36) (h1 : kT c = 1) : ∀ w ∈ u_ws (oR c) (oT c) (kF c).length, w ∈ GW := by
  intro w hw
  have h2 := List.all_eq_true.mp (ob_ok c hc h1).2.1 w hw
  simp only [Bool.and_eq_true, decide_eq_true_eq] at h2
  exact List.mem_filter.mpr h2
theorem hu_off {S : Hp} {k c : Nat} {j v : Int} : ∀ k' c', ¬ (k' = k ∧ c' = c) → ∀ i, hu S k c j v k' c' i = S k' c' i := by
  intro k' c' h i
  unfold hu
  rw [if_neg (fun q => h ⟨q.1, q.2.1⟩)]
theorem hcp_off {S : Hp} {k1 c1 k c : Nat} {sp dp n : Int} : ∀ k' c', ¬ (k' = k ∧ c' = c) → ∀ i, hcp S k1 c1 sp k c dp n k' c' i = S k' c' i := by
  intro k' c' h i
  unfold hcp
  rw [if_neg (fun q => h ⟨q.1, q.2.1⟩)]
theorem hu_at {S : Hp} {k c : Nat} {j v i : Int} : hu S k c j v k c i = if i = j then v else S k c i := by
  unfold hu
  by_cases h : i = j <;> simp [h]
/-- an object's row of values, one of them put -/
theorem map_set {f g : Nat → Value} {n k : Nat} (hk : k < n) (h : ∀ j, j ≠ k → g j = f j) : ((List.range n).map f).set k (g k) = (List.range n).map g := by
  apply List.ext_getElem?
  intro i
  rw [List.getElem?_set, List.getElem?_map, List.getElem?_map]
  by_cases hi : k = i
  · subst hi
    simp [hk]
  · rw [if_neg hi]
    by_cases h2 : i < n
    · rw [List.getElem?_range h2]
      show some _ = some _
      rw [h i (fun e => hi e.symm)]
    · rw [List.getElem?_eq_none (by simpa using h2)]
      rfl
theorem kT_lt : ∀ c, kT c = 1 ∨ kT c = 2 ∨ kT c = 3 ∨ kT c = 4 → c < 36 := by
  intro c h
  by_cases h1 : c < 41
  · have key : ∀ c, c < 41 → (kT c = 1 ∨ kT c = 2 ∨ kT c = 3 ∨ kT c = 4) → c < 36 := by decide +kernel
    exact key c h1 h
  · have h2 : kT c = 0 := by
      unfold kT
      repeat (first | rw [if_neg (by omega)])
    omega
theorem kL_kN : ∀ c, c < 36 → kT c = 2 ∨ kT c = 3 ∨ kT c = 4 → kL c = kN c ∧ kN c < 2147483648 := by decide +kernel
theorem kT_5 : ∀ c, c < 41 → kT c = 5 → (36 ≤ c ∧ c < 40) ∧ kL c = kN c ∧ kN c < 100 := by decide +kernel
theorem kT_6 : ∀ c, c < 41 → kT c = 6 → c = 40 := by decide +kernel
section SND
variable {l : Launch} {dC : Nat → ClassId} {dI : Nat → Nat → Nat} {al : Nat} {cyC cyI cyO : ClassId} {rho : Nat → Nat → Nat} {A : Nat → Prop} {Ln : Nat} {xs : Int → Int}
variable {mi pc : Nat} {KK : KT} {r : Option MV} {S S' : Hp} {L : Lc} {st : List MV}
theorem cE_obj {k c : Nat} (h : kT c = 1) : cE cyC cyI cyO rho S k c = .inr (kN c, (List.range (kF c).length).map (fun j => cvv rho (fM S k c j))) := by
  unfold cE; rw [if_pos h]
theorem cE_int {k c : Nat} (h : kT c = 2) : cE cyC cyI cyO rho S k c = .inl (cyI, kN c, .inl (fun j => Int32.ofInt (S k c j))) := by
  unfold cE; rw [if_neg (by omega), if_neg (by omega), if_neg (by omega)]
theorem cE_chr {k c : Nat} (h : kT c = 3) : cE cyC cyI cyO rho S k c = .inl (cyC, kN c, .inl (fun j => Int32.ofInt (S k c j))) := by
  unfold cE; rw [if_neg (by omega), if_pos h]
theorem cE_off {k c : Nat} (h : kT c = 4) : cE cyC cyI cyO rho S k c = .inl (cyO, kN c, .inr (.inr (.inr (.inr (fun j => some (rho (S k c j).toNat 0)))))) := by
  unfold cE; rw [if_neg (by omega), if_neg (by omega), if_pos h]
theorem gd_getfield {i k c j q rr : Nat} (hd : decode (mB mi) pc = .ok (.getfield i, 3)) (h1 : kT c = 1) (hc : c < 36) (hk : k < kK al c) (hq : (kF c)[j]? = some q) (hw : wAt rr (.fieldLink (mO mi) i (oT c j).1 (oT c j).2.1 (oT c j).2.2.1) = true)
    (kg : Gd l dC dI al cyC cyI cyO rho A Ln xs mi KK (pc + 3) L (fM S k c j :: st) S) : Gd l dC dI al cyC cyI cyO rho A Ln xs mi KK pc L (.inr (k, c) :: st) S := by
  intro p e R s m args below meth c0 H locs cells slots Q ls hC hP hS hl hR
  obtain ⟨hx, hb, hml, hown, hts, hSt, hf, hlo, hcs, hss, hAD⟩ := id hC
  obtain ⟨q0, -, hg⟩ := wL_get (al := al) (cyC := cyC) (cyI := cyI) (cyO := cyO) (rho := rho) S hc hk
  rw [cE_obj h1] at hg
  obtain ⟨o1, -, o3, o4⟩ := ob_ok c hc h1
  have hj : j < (kF c).length := (List.getElem?_eq_some_iff.mp hq).1
  exact va_get hx hb hts (ob_in hc h1) hown hSt.1 hP q0 hg o1 j hj (hts _ (GW_in hw)) (fun _ h9 => h9) (by rw [List.getElem?_map, List.getElem?_range hj]; rfl) hd
    (kg p e R s m args below meth c0 H locs cells slots Q ls hC hP hS hl hR)
theorem gd_putfield {i k c j q rr : Nat} {v : MV} {ty : FieldType} (hd : decode (mB mi) pc = .ok (.putfield i, 3)) (h1 : kT c = 1) (hc : c < 36) (hk : k < kK al c) (hq : (kF c)[j]? = some q) (hw : wAt rr (.fieldLink (mO mi) i (oT c j).1 (oT c j).2.1 (oT c j).2.2.1) = true)
    (hfin : (oT c j).2.2.2 = false) (hty : parseFieldDescriptor (oT c j).2.2.1 = some ty) (hn : narrow ty (cvv rho v) = cvv rho v) (hfit : fits ty (cvv rho v) = true) {S2 : Hp} (hv : cvv rho (fM S2 k c j) = cvv rho v)
    (ho : ∀ k' c', ¬ (k' = k ∧ c' = c) → ∀ i, S2 k' c' i = S k' c' i) (ho2 : ∀ i : Nat, i ≠ j → S2 k c i = S k c i)
    (kg : Gd l dC dI al cyC cyI cyO rho A Ln xs mi KK (pc + 3) L st S2) : Gd l dC dI al cyC cyI cyO rho A Ln xs mi KK pc L (v :: .inr (k, c) :: st) S := by
  intro p e R s m args below meth c0 H locs cells slots Q ls hC hP hS hl hR
  obtain ⟨hx, hb, hml, hown, hts, hSt, hf, hlo, hcs, hss, hAD⟩ := id hC
  obtain ⟨q0, hi0, hg⟩ := wL_get (al := al) (cyC := cyC) (cyI := cyI) (cyO := cyO) (rho := rho) S hc hk
  have hset := wL_set (al := al) (cyC := cyC) (cyI := cyI) (cyO := cyO) (rho := rho) hi0 ho
  rw [cE_obj h1] at hg hset
  obtain ⟨o1, -, o3, o4⟩ := ob_ok c hc h1
  have hj : j < (kF c).length := (List.getElem?_eq_some_iff.mp hq).1
  refine va_put (v := cvv rho v) hx hb hts (ob_in hc h1) (oTy c) o3 o4 hown hSt.1 hP (wL_D S hAD.2) hS q0 hg o1 j hj (hts _ (GW_in hw)) (fun _ h9 => h9) hfin hty hn hfit (by rw [List.length_map, List.length_range]; exact hj) hd
    (fun H1 locs1 hP1 hD1 hS1 => ?_)
  rw [← hv, map_set (f := fun j => cvv rho (fM S k c j)) (g := fun j => cvv rho (fM S2 k c j)) hj (fun i hi => by rw [fM_congr (ho2 i hi)]), hset] at hP1
  exact kg p e R s m args below meth c0 H1 locs1 cells slots Q ls hC hP1 hS1 hl hR
theorem gd_getstatic {i c rr r4 : Nat} (hd : decode (mB mi) pc = .ok (.getstatic i, 3)) (h1 : 36 ≤ c) (hc : c < 40)
    (hw : (if r4 = 0 then wAt rr (.fieldLink (mO mi) i "TicketWindows" (stN c) "[I") else decide (r4 = 1) && wNt rr (.fieldLinkNest (mO mi) i "TicketWindows" (stN c) "[I" "TicketWindows")) = true)
    (kg : Gd l dC dI al cyC cyI cyO rho A Ln xs mi KK (pc + 3) L (.inr (0, c) :: st) S) : Gd l dC dI al cyC cyI cyO rho A Ln xs mi KK pc L st S := by
  intro p e R s m args below meth c0 H locs cells slots Q ls hC hP hS hl hR
  obtain ⟨hx, hb, hml, hown, hts, hSt, hf, hlo, hcs, hss, hAD⟩ := id hC
  have hZ := (hSt.2.2.1 c h1 hc).1
  split at hw
  · exact va_gets hx hb hZ hS hown (hts _ (GW_in hw)) (fun _ h9 => h9) hd (kg p e R s m args below meth c0 H locs cells slots Q ls hC hP hS hl hR)
  · simp only [Bool.and_eq_true, wNt, decide_eq_true_eq] at hw
    exact va_getsN hx hb hZ hS hown (va_Nw.use rfl (hSt.2.1 _ _ hw.2 rfl)) (fun _ h9 => h9) hd (kg p e R s m args below meth c0 H locs cells slots Q ls hC hP hS hl hR)
theorem gd_iaload {k c : Nat} {z : Int} (hd : decode (mB mi) pc = .ok (.iaload, 1)) (h1 : kT c = 2) (hk : k < kK al c) (hz : 0 ≤ z ∧ z < kL c)
    (kg : Gd l dC dI al cyC cyI cyO rho A Ln xs mi KK (pc + 1) L (.inl (S k c z) :: st) S) : Gd l dC dI al cyC cyI cyO rho A Ln xs mi KK pc L (.inl z :: .inr (k, c) :: st) S := by
  intro p e R s m args below meth c0 H locs cells slots Q ls hC hP hS hl hR
  obtain ⟨hx, hb, hml, hown, hts, hSt, hf, hlo, hcs, hss, hAD⟩ := id hC
  have hc := kT_lt c (by omega)
  obtain ⟨q0, -, hg⟩ := wL_get (al := al) (cyC := cyC) (cyI := cyI) (cyO := cyO) (rho := rho) S hc hk
  rw [cE_int h1] at hg
  obtain ⟨n1, n2⟩ := kL_kN c hc (by omega)
  refine va_iald hx hb hSt.1 hP q0 1 hg rfl (oi_in hz.1 (by omega) n2) hd ?_
  have e1 : ((Int32.ofInt z).toNatClampNeg : Int) = z := by rw [oi_clamp hz.1 (by omega)]; omega
  rw [e1]
  exact kg p e R s m args below meth c0 H locs cells slots Q ls hC hP hS hl hR
theorem gd_iastatic {c : Nat} {z : Int} (hd : decode (mB mi) pc = .ok (.iaload, 1)) (h1 : kT c = 5) (hc : c < 41) (hz : 0 ≤ z ∧ z < kL c)
    (kg : Gd l dC dI al cyC cyI cyO rho A Ln xs mi KK (pc + 1) L (.inl (sv c z) :: st) S) : Gd l dC dI al cyC cyI cyO rho A Ln xs mi KK pc L (.inl z :: .inr (0, c) :: st) S := by
  intro p e R s m args below meth c0 H locs cells slots Q ls hC hP hS hl hR
  obtain ⟨hx, hb, hml, hown, hts, hSt, hf, hlo, hcs, hss, hAD⟩ := id hC
  obtain ⟨h2, n1, n2⟩ := kT_5 c hc h1
  have hX := (hSt.2.2.1 c h2.1 h2.2).2
  have e1 : ((Int32.ofInt z).toNatClampNeg : Int) = z := by rw [oi_clamp hz.1 (by omega)]; omega
  refine va_ti hx hb hX hS (oi_in hz.1 (by omega) (by omega)) (v := .int (Int32.ofInt (sv c z))) ?_ hd ?_
  · show Value.int (Int32.ofInt (sv c ((Int32.ofInt z).toNatClampNeg : Int))) = _
    rw [e1]
  · exact kg p e R s m args below meth c0 H locs cells slots Q ls hC hP hS hl hR
theorem gd_iascript {z : Int} (hd : decode (mB mi) pc = .ok (.iaload, 1)) (hz : 0 ≤ z ∧ z < Ln) (hL : Ln < 2147483648)
    (kg : Gd l dC dI al cyC cyI cyO rho A Ln xs mi KK (pc + 1) L (.inl (xs z) :: st) S) : Gd l dC dI al cyC cyI cyO rho A Ln xs mi KK pc L (.inl z :: .inr (0, 40) :: st) S := by
  intro p e R s m args below meth c0 H locs cells slots Q ls hC hP hS hl hR
  obtain ⟨hx, hb, hml, hown, hts, hSt, hf, hlo, hcs, hss, hAD⟩ := id hC
  have hX := hSt.2.2.2
  refine va_sld hx hb hX (va_X_lt hX) (hAD.1 40 (by omega) (by omega)) hS (oi_in hz.1 (by omega) (by omega)) hd ?_
  have e1 : ((Int32.ofInt z).toNatClampNeg : Int) = z := by rw [oi_clamp hz.1 (by omega)]; omega
  rw [e1]
  exact kg p e R s m args below meth c0 H locs cells slots Q ls hC hP hS hl hR
theorem gd_arraylength (hd : decode (mB mi) pc = .ok (.arraylength, 1))
    (kg : Gd l dC dI al cyC cyI cyO rho A Ln xs mi KK (pc + 1) L (.inl Ln :: st) S) : Gd l dC dI al cyC cyI cyO rho A Ln xs mi KK pc L (.inr (0, 40) :: st) S := by
  intro p e R s m args below meth c0 H locs cells slots Q ls hC hP hS hl hR
  obtain ⟨hx, hb, hml, hown, hts, hSt, hf, hlo, hcs, hss, hAD⟩ := id hC
  have hX := hSt.2.2.2
  refine va_slen hx hb hX (va_X_lt hX) (hAD.1 40 (by omega) (by omega)) hS hd ?_
  have h9 := kg p e R s m args below meth c0 H locs cells slots Q ls hC hP hS hl hR
  rw [List.map_cons, cvv, oi_nI] at h9
  exact h9
theorem gd_caload {k c : Nat} {z : Int} (hd : decode (mB mi) pc = .ok (.caload, 1)) (h1 : kT c = 3) (hk : k < kK al c) (hz : 0 ≤ z ∧ z < kL c)
    (kg : Gd l dC dI al cyC cyI cyO rho A Ln xs mi KK (pc + 1) L (.inl (S k c z) :: st) S) : Gd l dC dI al cyC cyI cyO rho A Ln xs mi KK pc L (.inl z :: .inr (k, c) :: st) S := by
  intro p e R s m args below meth c0 H locs cells slots Q ls hC hP hS hl hR
  obtain ⟨hx, hb, hml, hown, hts, hSt, hf, hlo, hcs, hss, hAD⟩ := id hC
  have hc := kT_lt c (by omega)
  obtain ⟨q0, -, hg⟩ := wL_get (al := al) (cyC := cyC) (cyI := cyI) (cyO := cyO) (rho := rho) S hc hk
  rw [cE_chr h1] at hg
  obtain ⟨n1, n2⟩ := kL_kN c hc (by omega)
  refine va_cald hx hb hSt.1 hP q0 0 hg rfl (oi_in hz.1 (by omega) n2) hd ?_
  have e1 : ((Int32.ofInt z).toNatClampNeg : Int) = z := by rw [oi_clamp hz.1 (by omega)]; omega
  rw [e1]
  exact kg p e R s m args below meth c0 H locs cells slots Q ls hC hP hS hl hR
theorem gd_iastore {k c : Nat} {z v : Int} (hd : decode (mB mi) pc = .ok (.iastore, 1)) (h1 : kT c = 2) (hk : k < kK al c) (hz : 0 ≤ z ∧ z < kL c)
    (kg : Gd l dC dI al cyC cyI cyO rho A Ln xs mi KK (pc + 1) L st (hu S k c z v)) : Gd l dC dI al cyC cyI cyO rho A Ln xs mi KK pc L (.inl v :: .inl z :: .inr (k, c) :: st) S := by
  intro p e R s m args below meth c0 H locs cells slots Q ls hC hP hS hl hR
  obtain ⟨hx, hb, hml, hown, hts, hSt, hf, hlo, hcs, hss, hAD⟩ := id hC
  have hc := kT_lt c (by omega)
  obtain ⟨q0, hi0, hg⟩ := wL_get (al := al) (cyC := cyC) (cyI := cyI) (cyO := cyO) (rho := rho) S hc hk
  have hset := wL_set (al := al) (cyC := cyC) (cyI := cyI) (cyO := cyO) (rho := rho) hi0 (hu_off (S := S) (k := k) (c := c) (j := z) (v := v))
  rw [cE_int h1] at hg hset
  obtain ⟨n1, n2⟩ := kL_kN c hc (by omega)
  refine va_iast hx hb hSt.1 hP (wL_D S hAD.2) hS q0 1 hg rfl (oi_in hz.1 (by omega) n2) hd (fun H1 locs1 hP1 hD1 hS1 => ?_)
  have e2 : upd (fun j : Nat => Int32.ofInt (S k c j)) (Int32.ofInt z).toNatClampNeg (Int32.ofInt v) = fun j : Nat => Int32.ofInt (hu S k c z v k c j) := by
    funext j
    rw [oi_clamp hz.1 (by omega), hu_at]
    unfold upd
    by_cases hj : j = z.toNat
    · rw [if_pos hj, if_pos (by omega)]
    · rw [if_neg hj, if_neg (by omega)]
  rw [e2, hset] at hP1
  exact kg p e R s m args below meth c0 H1 locs1 cells slots Q ls hC hP1 hS1 hl hR
theorem gd_castore {k c : Nat} {z v : Int} (hd : decode (mB mi) pc = .ok (.castore, 1)) (h1 : kT c = 3) (hk : k < kK al c) (hz : 0 ≤ z ∧ z < kL c) (hv : 0 ≤ v ∧ v < 65536)
    (kg : Gd l dC dI al cyC cyI cyO rho A Ln xs mi KK (pc + 1) L st (hu S k c z v)) : Gd l dC dI al cyC cyI cyO rho A Ln xs mi KK pc L (.inl v :: .inl z :: .inr (k, c) :: st) S := by
  intro p e R s m args below meth c0 H locs cells slots Q ls hC hP hS hl hR
  obtain ⟨hx, hb, hml, hown, hts, hSt, hf, hlo, hcs, hss, hAD⟩ := id hC
  have hc := kT_lt c (by omega)
  obtain ⟨q0, hi0, hg⟩ := wL_get (al := al) (cyC := cyC) (cyI := cyI) (cyO := cyO) (rho := rho) S hc hk
  have hset := wL_set (al := al) (cyC := cyC) (cyI := cyI) (cyO := cyO) (rho := rho) hi0 (hu_off (S := S) (k := k) (c := c) (j := z) (v := v))
  rw [cE_chr h1] at hg hset
  obtain ⟨n1, n2⟩ := kL_kN c hc (by omega)
  refine va_cast hx hb hSt.1 hP (wL_D S hAD.2) hS q0 0 hg rfl (oi_in hz.1 (by omega) n2) hd (fun H1 locs1 hP1 hD1 hS1 => ?_)
  have e2 : upd (fun j : Nat => Int32.ofInt (S k c j)) (Int32.ofInt z).toNatClampNeg (vp_nar .char (Int32.ofInt v)) = fun j : Nat => Int32.ofInt (hu S k c z v k c j) := by
    funext j
    rw [oi_clamp hz.1 (by omega), hu_at, oi_nar hv]
    unfold upd
    by_cases hj : j = z.toNat
    · rw [if_pos hj, if_pos (by omega)]
    · rw [if_neg hj, if_neg (by omega)]
  rw [e2, hset] at hP1
  exact kg p e R s m args below meth c0 H1 locs1 cells slots Q ls hC hP1 hS1 hl hR
theorem gd_aaload {k c : Nat} {z : Int} (hd : decode (mB mi) pc = .ok (.aaload, 1)) (h1 : kT c = 4) (hk : k < kK al c) (hz : 0 ≤ z ∧ z < kL c)
    (kg : Gd l dC dI al cyC cyI cyO rho A Ln xs mi KK (pc + 1) L (.inr ((S k c z).toNat, 0) :: st) S) : Gd l dC dI al cyC cyI cyO rho A Ln xs mi KK pc L (.inl z :: .inr (k, c) :: st) S := by
  intro p e R s m args below meth c0 H locs cells slots Q ls hC hP hS hl hR
  obtain ⟨hx, hb, hml, hown, hts, hSt, hf, hlo, hcs, hss, hAD⟩ := id hC
  have hc := kT_lt c (by omega)
  obtain ⟨q0, -, hg⟩ := wL_get (al := al) (cyC := cyC) (cyI := cyI) (cyO := cyO) (rho := rho) S hc hk
  rw [cE_off h1] at hg
  obtain ⟨n1, n2⟩ := kL_kN c hc (by omega)
  refine va_aldq hx hb hSt.1 hP q0 2 hg rfl (oi_in hz.1 (by omega) n2) hd ?_
  have e1 : ((Int32.ofInt z).toNatClampNeg : Int) = z := by rw [oi_clamp hz.1 (by omega)]; omega
  rw [e1]
  exact kg p e R s m args below meth c0 H locs cells slots Q ls hC hP hS hl hR
theorem gd_aastore {k c q : Nat} {z : Int} (hd : decode (mB mi) pc = .ok (.aastore, 1)) (h1 : kT c = 4) (hk : k < kK al c) (hz : 0 ≤ z ∧ z < kL c) (hq : q < 7)
    (kg : Gd l dC dI al cyC cyI cyO rho A Ln xs mi KK (pc + 1) L st (hu S k c z q)) : Gd l dC dI al cyC cyI cyO rho A Ln xs mi KK pc L (.inr (q, 0) :: .inl z :: .inr (k, c) :: st) S := by
  intro p e R s m args below meth c0 H locs cells slots Q ls hC hP hS hl hR
  obtain ⟨hx, hb, hml, hown, hts, hSt, hf, hlo, hcs, hss, hAD⟩ := id hC
  have hc := kT_lt c (by omega)
  obtain ⟨q0, hi0, hg⟩ := wL_get (al := al) (cyC := cyC) (cyI := cyI) (cyO := cyO) (rho := rho) S hc hk
  obtain ⟨q1, -, hg1⟩ := wL_get (al := al) (cyC := cyC) (cyI := cyI) (cyO := cyO) (rho := rho) S (k := q) (c := 0) (by omega) hq
  have hset := wL_set (al := al) (cyC := cyC) (cyI := cyI) (cyO := cyO) (rho := rho) hi0 (hu_off (S := S) (k := k) (c := c) (j := z) (v := q))
  rw [cE_off h1] at hg hset
  rw [cE_obj (c := 0) rfl] at hg1
  obtain ⟨n1, n2⟩ := kL_kN c hc (by omega)
  refine va_astq hx hb hSt.1 hP (wL_D S hAD.2) hS q0 2 q1 3 hg rfl hg1 rfl (oi_in hz.1 (by omega) n2) hd (fun H1 locs1 hP1 hD1 hS1 => ?_)
  have e2 : va_up (fun j : Nat => some (rho (S k c j).toNat 0)) (Int32.ofInt z).toNatClampNeg (some (rho q 0)) = fun j : Nat => some (rho (hu S k c z q k c j).toNat 0) := by
    funext j
    rw [oi_clamp hz.1 (by omega), hu_at]
    unfold va_up
    by_cases hj : j = z.toNat
    · rw [if_pos hj, if_pos (by omega)]; rfl
    · rw [if_neg hj, if_neg (by omega)]
  rw [e2, hset] at hP1
  exact kg p e R s m args below meth c0 H1 locs1 cells slots Q ls hC hP1 hS1 hl hR
theorem gd_copy {i k1 c1 k2 c2 rr : Nat} {n sp dp : Int} (hd : decode (mB mi) pc = .ok (.invokestatic i, 3)) (hw : wAt rr (.methodLink (mO mi) i arraycopyName) = true) (hfr : 1 ≤ mF mi) (hll : 18 ≤ mLo mi)
    (h1 : kT c1 = 2) (h2 : kT c2 = 2) (hk1 : k1 < kK al c1) (hk2 : k2 < kK al c2) (h0 : 0 ≤ n ∧ 0 ≤ sp ∧ 0 ≤ dp) (h3 : sp + n ≤ kL c1) (h4 : dp + n ≤ kL c2)
    (hnat : wAt 243 (.native arraycopyName) = true) (hstat : wAt 242 (.static arraycopyName) = true) (hini : wAt 23 (.initialized "java/lang/System") = true)
    (kg : Gd l dC dI al cyC cyI cyO rho A Ln xs mi KK (pc + 3) L [] (hcp S k1 c1 sp k2 c2 dp n)) : Gd l dC dI al cyC cyI cyO rho A Ln xs mi KK pc L [.inl n, .inl dp, .inr (k2, c2), .inl sp, .inr (k1, c1)] S := by
  intro p e R s m args below meth c0 H locs cells slots Q ls hC hP hS hl hR
  obtain ⟨hx, hb, hml, hown, hts, hSt, hf, hlo, hcs, hss, hAD⟩ := id hC
  have hc1 := kT_lt c1 (by omega)
  have hc2 := kT_lt c2 (by omega)
  obtain ⟨n1, n2⟩ := kL_kN c1 hc1 (by omega)
  obtain ⟨n3, n4⟩ := kL_kN c2 hc2 (by omega)
  obtain ⟨q0, -, hg0⟩ := wL_get (al := al) (cyC := cyC) (cyI := cyI) (cyO := cyO) (rho := rho) S hc1 hk1
  obtain ⟨q1, hi1, hg1⟩ := wL_get (al := al) (cyC := cyC) (cyI := cyI) (cyO := cyO) (rho := rho) S hc2 hk2
  have hset := wL_set (al := al) (cyC := cyC) (cyI := cyI) (cyO := cyO) (rho := rho) hi1 (hcp_off (S := S) (k1 := k1) (c1 := c1) (sp := sp) (k := k2) (c := c2) (dp := dp) (n := n))
  rw [cE_int h1] at hg0
  rw [cE_int h2] at hg1 hset
  have ng : ∀ {z : Int}, 0 ≤ z → z < 2147483648 → ¬ Int32.ofInt z < 0 := fun h h' q => by
    have := (oi_lt (u := _) (v := 0) ⟨by omega, by omega⟩ (by omega)).mp q
    omega
  have e1 := oi_clamp h0.1 (by omega)
  have e2 := oi_clamp h0.2.1 (by omega)
  have e3 := oi_clamp h0.2.2 (by omega)
  refine va_copyi (c0 := cyI) (c1 := cyI) (ty := .int) hx hb (by rw [hml]; exact hl.2.1.symm) hown (hts _ (GW_in hw)) (hts _ (GW_in hnat)) (hts _ (GW_in hstat)) (hts _ (GW_in hini)) hSt.1 hP (wL_D S hAD.2) hS q0 q1 1 1 hg0 hg1 rfl rfl rfl
    (ng h0.2.1 (by omega)) (ng h0.2.2 (by omega)) (ng h0.1 (by omega)) (by rw [e1, e2]; omega) (by rw [e1, e3]; omega) (fun _ _ => rfl) (Nat.le_trans hfr hf) ?_ hd (fun H1 locs1 hP1 hD1 hS1 => ?_)
  · have h9 : 18 ≤ R.locals := Nat.le_trans hll hlo
    show 0 + (7 + 11) ≤ R.locals
    omega
  · have e5 : va_cpy (fun j : Nat => Int32.ofInt (S k1 c1 j)) (fun j : Nat => Int32.ofInt (S k2 c2 j)) (Int32.ofInt sp).toNatClampNeg (Int32.ofInt dp).toNatClampNeg (Int32.ofInt n).toNatClampNeg = fun j : Nat => Int32.ofInt (hcp S k1 c1 sp k2 c2 dp n k2 c2 j) := by
      funext j
      rw [e1, e2, e3]
      unfold va_cpy hcp
      by_cases hj : dp ≤ j ∧ (j : Int) < dp + n
      · rw [if_pos (by omega), if_pos ⟨rfl, rfl, hj⟩]
        have e6 : ((sp.toNat + (j - dp.toNat) : Nat) : Int) = sp + (j - dp) := by omega
        show Int32.ofInt (S k1 c1 ((sp.toNat + (j - dp.toNat) : Nat) : Int)) = _
        rw [e6]
      · rw [if_neg (by omega), if_neg (fun q => hj q.2.2)]
    rw [e5, hset] at hP1
    exact kg p e R s m args below meth c0 H1 locs1 cells slots Q ls hC hP1 hS1 hl hR
theorem tgt_of {pc : Nat} {o : Int} (h : 0 ≤ (pc : Int) + o) : (pc : Int) + o = (tgt pc o : Nat) := by
  unfold tgt
  split <;> omega
theorem tsw_is (L : Lc) (st : List MV) (S : Hp) (pc : Nat) (d z : Int) : ∀ (os : List Int) (c : Int), (c ≤ z ∧ z < c + os.length ∧ ∃ o, os[(z - c).toNat]? = some o ∧ tsw L st S pc d z c os = rN (tgt pc o) L st S) ∨ ((z < c ∨ c + os.length ≤ z) ∧ tsw L st S pc d z c os = rN (tgt pc d) L st S) := by
  intro os
  induction os with
  | nil => intro c; exact Or.inr ⟨by simp; omega, rfl⟩
  | cons o os ih =>
    intro c
    unfold tsw
    by_cases h : z = c
    · rw [if_pos h]
      exact Or.inl ⟨by omega, by simp; omega, o, by rw [h]; simp, rfl⟩
    · rw [if_neg h]
      rcases ih (c + 1) with ⟨h1, h2, o', h3, h4⟩ | ⟨h1, h2⟩
      · refine Or.inl ⟨by omega, by simp; omega, o', ?_, h4⟩
        have e : (z - c).toNat = (z - (c + 1)).toNat + 1 := by omega
        rw [e, List.getElem?_cons_succ]
        exact h3
      · exact Or.inr ⟨by simp; omega, h2⟩
theorem gd_tsw {d lo hi z : Int} {os : Array Int} {len : Nat} (hd : decode (mB mi) pc = .ok (.tableswitch d lo hi os, len)) (hz : inR z) (h1 : 0 ≤ (pc : Int) + d) (h2 : os.toList.all (fun o => decide (0 ≤ (pc : Int) + o)) = true) (h3 : hi = lo + os.size - 1)
    {tg : Nat} (ht : tsw L st S pc d z lo os.toList = rN tg L st S) (kg : Gd l dC dI al cyC cyI cyO rho A Ln xs mi KK tg L st S) : Gd l dC dI al cyC cyI cyO rho A Ln xs mi KK pc L (.inl z :: st) S := by
  intro p e R s m args below meth c0 H locs cells slots Q ls hC hP hS hl hR
  obtain ⟨hx, hb, hml, hown, hts, hSt, hf, hlo, hcs, hss, hAD⟩ := id hC
  have e0 := oi_toInt hz
  have hK := kg p e R s m args below meth c0 H locs cells slots Q ls hC hP hS hl hR
  have inj : ∀ {a b : Nat}, rN a L st S = rN b L st S → a = b := fun h => by cases h; rfl
  have hsz : os.toList.length = os.size := Array.length_toList
  rcases tsw_is L st S pc d z os.toList lo with ⟨g1, g2, o, g3, g4⟩ | ⟨g1, g2⟩
  · have e1 := inj (ht.symm.trans g4)
    subst e1
    refine lv_tableIn hx hb hd (by rw [e0]; omega) (by rw [e0]; omega) (off := o) (by rw [e0, ← Array.getElem?_toList]; exact g3) (tgt_of ?_) hK
    have := List.all_eq_true.mp h2 o (List.mem_of_getElem? g3)
    simpa using this
  · have e1 := inj (ht.symm.trans g2)
    subst e1
    exact lv_tableOut hx hb hd (by rw [e0]; omega) (tgt_of h1) hK
theorem lsw_is (L : Lc) (st : List MV) (S : Hp) (pc : Nat) (d z : Int) : ∀ (ps : List (Int × Int)), lsw L st S pc d z ps = rN (tgt pc (lookupswitch.offset ps d z)) L st S ∧ (lookupswitch.offset ps d z = d ∨ ∃ q ∈ ps, lookupswitch.offset ps d z = q.2) := by
  intro ps
  induction ps with
  | nil => exact ⟨rfl, Or.inl rfl⟩
  | cons q ps ih =>
    obtain ⟨k, o⟩ := q
    unfold lsw
    rw [lookupswitch.offset_cons]
    by_cases h : z = k
    · rw [if_pos h, if_pos h.symm]
      exact ⟨rfl, Or.inr ⟨(k, o), List.mem_cons_self, rfl⟩⟩
    · rw [if_neg h, if_neg (fun q => h q.symm)]
      refine ⟨ih.1, ih.2.imp id ?_⟩
      rintro ⟨q, h1, h2⟩
      exact ⟨q, List.mem_cons_of_mem _ h1, h2⟩
theorem gd_lsw {d z : Int} {ps : Array (Int × Int)} {len : Nat} (hd : decode (mB mi) pc = .ok (.lookupswitch d ps, len)) (hz : inR z) (h1 : 0 ≤ (pc : Int) + d) (h2 : ps.toList.all (fun o => decide (0 ≤ (pc : Int) + o.2)) = true) (h3 : (ps.toList.zip (ps.toList.drop 1)).all (fun (a, next) => a.1 < next.1) = true)
    {tg : Nat} (ht : lsw L st S pc d z ps.toList = rN tg L st S) (kg : Gd l dC dI al cyC cyI cyO rho A Ln xs mi KK tg L st S) : Gd l dC dI al cyC cyI cyO rho A Ln xs mi KK pc L (.inl z :: st) S := by
  intro p e R s m args below meth c0 H locs cells slots Q ls hC hP hS hl hR
  obtain ⟨hx, hb, hml, hown, hts, hSt, hf, hlo, hcs, hss, hAD⟩ := id hC
  have e0 := oi_toInt hz
  have hK := kg p e R s m args below meth c0 H locs cells slots Q ls hC hP hS hl hR
  have inj : ∀ {a b : Nat}, rN a L st S = rN b L st S → a = b := fun h => by cases h; rfl
  obtain ⟨g1, g2⟩ := lsw_is L st S pc d z ps.toList
  have e1 := inj (ht.symm.trans g1)
  subst e1
  refine lv_lookup hx hb hd h3 (by rw [e0]) (tgt_of ?_) hK
  rcases g2 with g2 | ⟨q, g2, g3⟩
  · rw [g2]; exact h1
  · rw [g3]
    have := List.all_eq_true.mp h2 q g2
    simpa using this
theorem gd_ret (hr : retAt mi pc r) (hst : st.map (cvv rho) = (r.map (cvv rho)).toList) (hS : S' = S) : Gd l dC dI al cyC cyI cyO rho A Ln xs mi (Rh l dC dI al cyC cyI cyO rho A mi r S') pc L st S := by
  intro p e R s m args below meth c0 H locs cells slots Q ls hC hP hS1 hl hR
  subst hS
  rw [hst]
  exact hR pc ls H locs hr hP hS1
end SND
end
section
/-! THE SMALL MACHINE IS TRUE: the whole of it, calls included -/
def rmm (m : Nat) : Room := { frames := mF m, cells := 0, slots := 0, locals := mLo m }
def QcR (dC : Nat → ClassId) (dI : Nat → Nat → Nat) (al : Nat) (cyC cyI cyO : ClassId) (rho : Nat → Nat → Nat) (A : Nat → Prop) (r : Option MV) (S' : Hp) : Array Value → State → Outcome → State → Prop :=
  fun _ s o t => (o = .returned (r.map (cvv rho)) ∧ va_P (dC, dI) vwCl (wL al cyC cyI cyO rho S') t.heap) ∧ va_F A s t
def PcR (dC : Nat → ClassId) (dI : Nat → Nat → Nat) (al : Nat) (cyC cyI cyO : ClassId) (rho : Nat → Nat → Nat) (A : Nat → Prop) (Ln : Nat) (xs : Int → Int) (as : List MV) (S : Hp) : Array Value → State → Prop :=
  va_Pc (as.map (cvv rho)) (fun U => va_P (dC, dI) vwCl (wL al cyC cyI cyO rho S) U.heap ∧ St0 dC dI cyC cyI cyO rho A Ln xs U)
section SND
variable {l : Launch} {dC : Nat → ClassId} {dI : Nat → Nat → Nat} {al : Nat} {cyC cyI cyO : ClassId} {rho : Nat → Nat → Nat} {A : Nat → Prop} {Ln : Nat} {xs : Int → Int}
theorem PcR_blind (as : List MV) (S : Hp) : FrameBlind (PcR dC dI al cyC cyI cyO rho A Ln xs as S) := by
  intro a U g mk h
  obtain ⟨h1, h2, h3⟩ := h
  exact ⟨h1, h2, St0_calling h3 g mk a⟩
theorem lg_sl_1 (rho : Nat → Nat → Nat) : ∀ (as : List MV), lg_sl (as.map (cvv rho)) = as.map (fun v => Slot.val (cvv rho v))
  | [] => rfl
  | v :: as => by
    show (if (cvv rho v).category = 2 then _ else _) ++ lg_sl (as.map (cvv rho)) = _
    rw [cvv_cat, lg_sl_1 rho as]
    rfl
theorem lv_args_1 (rho : Nat → Nat → Nat) : ∀ (as : List MV) (i j : Nat) (v : MV), as[j]? = some v → (i + j, cvv rho v) ∈ lv_args i (as.map (cvv rho))
  | [], i, j, v, h => by simp at h
  | w :: as, i, 0, v, h => by
    simp at h
    subst h
    exact List.mem_cons_self
  | w :: as, i, j + 1, v, h => by
    rw [List.getElem?_cons_succ] at h
    have h1 := lv_args_1 rho as (i + 1) j v h
    show _ ∈ (i, cvv rho w) :: lv_args (if (cvv rho w).category = 2 then i + 2 else i + 1) (as.map (cvv rho))
    rw [cvv_cat]
    refine List.mem_cons_of_mem _ ?_
    have e : i + (j + 1) = i + 1 + j := by omega
    rw [e]
    exact h1
theorem ini_some {m : Nat} {as : List MV} {i : Nat} {v : MV} (h : (ini m as)[i]? = some (some v)) : as[i]? = some v := by
  unfold ini at h
  rw [List.getElem?_append] at h
  split at h
  · rw [List.getElem?_map] at h
    cases h2 : as[i]? with
    | none => rw [h2] at h; cases h
    | some w => rw [h2] at h; cases h; rfl
  · rw [List.getElem?_replicate] at h
    split at h <;> simp at h
theorem LR_ini {m : Nat} {as : List MV} (h : as.length ≤ mL m) : LR rho ((lg_sl (as.map (cvv rho)) ++ List.replicate (mL m - (lg_sl (as.map (cvv rho))).length) Slot.unset).toArray) (mL m) (ini m as) := by
  have hle : (lg_sl (as.map (cvv rho))).length ≤ mL m := by rw [lg_sl_1, List.length_map]; exact h
  have h1 := lv_entry (as.map (cvv rho)) hle
  refine ⟨by unfold ini; simp; omega, h1.1, h1.2.1, fun q hq => ?_⟩
  obtain ⟨v, h2, h3⟩ := lvL_of hq
  obtain ⟨i, w⟩ := q
  dsimp only at h2 h3
  subst h3
  refine h1.2.2 _ ?_
  have h4 := lv_args_1 rho as 0 i v (ini_some h2)
  rw [Nat.zero_add] at h4
  exact h4
theorem met_of {m : Nat} {as : List MV} {S S' : Hp} {r : Option MV} (hAD : AD al cyC cyI cyO rho A) (hm : m < mN) (h0 : 0 < m) (hlen : as.length ≤ mL m) (hg : Gd l dC dI al cyC cyI cyO rho A Ln xs m (Rh l dC dI al cyC cyI cyO rho A m r S') 0 (ini m as) [] S) :
    Met l (mY m) (.code (mY m) (mB m) (mL m) (mR m) :: GW) (rmm m) (PcR dC dI al cyC cyI cyO rho A Ln xs as S) (QcR dC dI al cyC cyI cyO rho A r S') 0 0 A := by
  have hz := cz_all hm
  have hpn : plainName (mY m).cls = true := by
    unfold ckM at hz
    have h1 : ¬ m = 0 := by omega
    simp only [h1, decide_false, Bool.false_or, Bool.and_eq_true] at hz
    exact hz.1.1.2
  refine Met.ofW (cc := mB m) (maxL := mL m) (ret := mR m) hpn rfl ?_
  intro p e s mm args below meth c s₁ B hml hv
  obtain ⟨rfl, hP, hSt⟩ := hv
  have hts := atoms_spec (ws := .code (mY m) (mB m) (mL m) (mR m) :: GW) B.pre
  have hlocks := B.notSynchronized
  rw [lg_entry_eq]
  refine hg p e _ s mm _ below meth c s.heap [] 0 0 _ _ ⟨B.exec, B.bytes, hml, findClass_of_methodNamed B.named, fun w hw => hts w (List.mem_cons_of_mem _ hw), hSt, Nat.le_refl _, Nat.le_refl _, Nat.zero_le _, Nat.zero_le _, hAD⟩ hP va_S.rf (LR_ini hlen) ?_
  intro pc ls H locs hr hP1 hS1
  have hQ : ∀ t : State, t.heap = H → QcR dC dI al cyC cyI cyO rho A r S' (as.map (cvv rho)).toArray s (.returned (r.map (cvv rho))) t := fun t ht => ⟨⟨rfl, by rw [ht]; exact hP1⟩, hS1.F ht⟩
  rcases hr with ⟨z, rfl, hd, hz | ⟨hz, hz2⟩⟩ | ⟨q, rfl, hd, hz⟩ | ⟨rfl, hd, hz⟩
  · exact W.iret B.exec B.bytes (B.returns.trans hz) (fun t ht hW => hQ t ht) hS1.2.2 hd
  · refine W.zret (ty := .boolean) B.exec B.bytes (B.returns.trans hz) ?_ (fun t ht hW => hQ t ht) hS1.2.2 hd
    rcases hz2 with rfl | rfl <;> rfl
  · rcases hz with ⟨n, hz⟩ | ⟨n, hz⟩
    · exact W.aret B.exec B.bytes (B.returns.trans hz) (Or.inl ⟨n, rfl⟩) (Or.inr ⟨_, rfl⟩) (fun t ht hW => hQ t ht) hS1.2.2 hd
    · exact W.aret B.exec B.bytes (B.returns.trans hz) (Or.inr ⟨n, rfl⟩) (Or.inr ⟨_, rfl⟩) (fun t ht hW => hQ t ht) hS1.2.2 hd
  · exact W.vret B.exec B.bytes (B.returns.trans hz) (fun t ht hW => hQ t ht) hS1.2.2 hd
section CALL
variable {p : Program} {e : Env} {R : Room} {s : State} {m : MethodId} {args : Array Value} {below : List Frame} {meth : Method} {c : Code} {H : Heap} {locs : List Loc} {cells slots : Nat} {Q : State → Prop} {pc : Nat} {ls : Array Slot} {rest st0 : List Value}
theorem call_go {r : Option MV} {S' : Hp} {a : Array Value} (hr : va_Run p l e R s m args below meth c H locs cells slots 0 0 (F0 m pc ls st0) rest (QcR dC dI al cyC cyI cyO rho A r S' a) A) (hS : va_S A s.heap H locs)
    (kk : ∀ (H1 : Heap) (locs1 : List Loc), va_P (dC, dI) vwCl (wL al cyC cyI cyO rho S') H1 → va_S A s.heap H1 locs1 → W p l e R s m args below meth c H1 locs1 cells slots Q (F0 m (pc + 3) ls ((r.map (cvv rho)).toList ++ rest))) : W p l e R s m args below meth c H locs cells slots Q (F0 m pc ls st0) := by
  intro T hT X
  obtain ⟨v, st₀, t, T', L, h0, X', hL, e1, e2, ⟨⟨hv, hp⟩, hz, hk⟩, st⟩ := hr T hT X
  cases hv
  rw [h0] at hz hk
  obtain ⟨t2, a1, b1⟩ := kk T'.heap (locs ++ L) (by rw [e1]; exact hp)
    ⟨Nat.le_trans hS.1 (by rw [e1]; exact hz), fun q h1 h2 => by rw [e1, hk q (Nat.lt_of_lt_of_le h1 hS.1) h2]; exact hS.2.1 q h1 h2, fun q hq => by
      rcases List.mem_append.mp hq with h | h
      · exact hS.2.2 q h
      · exact hL q h⟩ T' rfl X'
  exact ⟨t2, st t2 a1, b1⟩
end CALL
variable {mi pc : Nat} {KK : KT} {r r1 : Option MV} {S S' S1 : Hp} {L : Lc} {st : List MV}
theorem ckM_use {m : Nat} (hm : m < mN) (h0 : 0 < m) : wAt (mP m).1 (.code (mY m) (mB m) (mL m) (mR m)) = true ∧ (if mS m = true then wAt (mP m).2.1 (.static (mY m)) else wAt (mP m).2.1 (.instanceMethod (mY m)) && wAt (mP m).2.2.1 (.selects (mY m).cls (mY m) (mY m)) && decide (oR (mT m) = (mY m).cls) && decide (kT (mT m) = 1) && decide (mT m < 36)) = true ∧
    wAt (mP m).2.2.2 (.initialized (mY m).cls) = true ∧ (mY m).cls ≠ "java/lang/invoke/MethodHandle" ∧ (mY m).cls ≠ "java/lang/invoke/VarHandle" := by
  have hz := cz_all hm
  unfold ckM at hz
  have h1 : ¬ m = 0 := by omega
  simp only [h1, decide_false, Bool.false_or, Bool.and_eq_true] at hz
  obtain ⟨⟨⟨⟨⟨z1, z2⟩, z3⟩, z4⟩, z5⟩, z6⟩ := hz
  exact ⟨z1, by simpa only [Bool.and_eq_true] using z2, z3, of_decide_eq_true z5, of_decide_eq_true z6⟩
theorem sum_cat (rho : Nat → Nat → Nat) : ∀ (st : List MV), ((st.map (cvv rho)).map fun v => v.category).sum = st.length
  | [] => rfl
  | v :: st => by
    rw [List.map_cons, List.map_cons, List.sum_cons, cvv_cat, sum_cat rho st, List.length_cons]
    omega
theorem gd_callV {i m rr n k : Nat} {as : List MV} (hd : decode (mB mi) pc = .ok (.invokevirtual i, 3)) (hck : ckCall mi m n = true) (hms : mS m = false) (hw : wAt rr (.methodLink (mO mi) i (mY m)) = true) (hk : k < kK al (mT m)) (hn : as.length = n) (h8 : st.length ≤ 8)
    (hS : StS Ln xs S) (hg : Gd l dC dI al cyC cyI cyO rho A Ln xs m (Rh l dC dI al cyC cyI cyO rho A m r1 S1) 0 (ini m (.inr (k, mT m) :: as)) [] S) (kg : Gd l dC dI al cyC cyI cyO rho A Ln xs mi KK (pc + 3) L (r1.toList ++ st) S1) :
    Gd l dC dI al cyC cyI cyO rho A Ln xs mi KK pc L (as.reverse ++ .inr (k, mT m) :: st) S := by
  intro p e R s mm args below meth c0 H locs cells slots Q ls hC hP hS1 hl hR
  obtain ⟨hx, hb, hml, hown, hts, hSt, hf, hlo, hcs, hss, hAD⟩ := id hC
  simp only [ckCall, Bool.and_eq_true, decide_eq_true_eq] at hck
  obtain ⟨⟨⟨⟨⟨c0', c1⟩, c2⟩, c3⟩, c4⟩, c5⟩ := hck
  rw [hms] at c0'
  obtain ⟨z1, z2, z3, z4, z5⟩ := ckM_use c1 c2
  rw [hms] at z2
  simp only [Bool.and_eq_true, decide_eq_true_eq, Bool.false_eq_true, ↓reduceIte] at z2
  obtain ⟨⟨⟨⟨z6, z7⟩, z8⟩, z9⟩, z10⟩ := z2
  obtain ⟨q0, -, hq⟩ := wL_get (al := al) (cyC := cyC) (cyI := cyI) (cyO := cyO) (rho := rho) S z10 hk
  rw [cE_obj z9] at hq
  have hrecv := va_recv hSt.1 hP (ob_ok _ z10 z9).1 hq
  dsimp only at hrecv
  rw [z8] at hrecv
  have hM := met_of (l := l) (A := A) (Ln := Ln) (xs := xs) (dC := dC) (dI := dI) hAD c1 c2 (al := al) (as := .inr (k, mT m) :: as) (S := S) (S' := S1) (r := r1) (by rw [List.length_cons]; simp at c0'; omega) hg
  have hcw : CallW R s args (mO mi) (mY m).cls i (mY m) (mB m) (mL m) (mR m) (.code (mY m) (mB m) (mL m) (mR m) :: GW) (rmm m) 0 0 n :=
    ⟨callB_of n hts (fun w hw2 => by
      rcases List.mem_cons.mp hw2 with h | h
      · rw [h]; exact GW_good _ (GW_in z1)
      · exact GW_good w h) rfl rfl rfl (hts _ (GW_in z3)) (hts _ (GW_in hw)) ⟨z4, z5, c5⟩ ⟨Nat.le_trans c3 hf, Nat.le_trans c4 hlo⟩, hts _ (GW_in z6), hts _ (GW_in z7)⟩
  have hrun := va_runV (l := l) (e := e) (below := below) (meth := meth) (locs := locs) (cells := cells) (slots := slots) (b := rho k (mT m)) (As := as.map (cvv rho)) (rest := st.map (cvv rho)) (g := F0 mm pc ls ((as.reverse ++ .inr (k, mT m) :: st).map (cvv rho)))
    ⟨hx, hb, hml, hown, hts⟩ hM hcw ⟨PcR_blind _ _, hrecv, fun U hU hW => ⟨rfl, by rw [hU]; exact hP, St0_next hSt hAD.1 hS1 hU hW⟩⟩ rfl (by rw [List.length_map]; exact hn) hl.2.1 (by simp [cvv]) (lv_room (by rw [sum_cat]; exact h8)) hd ⟨hcs, hss⟩
  refine call_go hrun hS1 (fun H1 locs1 hP1 hS2 => ?_)
  have h9 := kg p e R s mm args below meth c0 H1 locs1 cells slots Q ls hC hP1 hS2 hl hR
  rw [List.map_append] at h9
  have e9 : (r1.toList).map (cvv rho) = (r1.map (cvv rho)).toList := by cases r1 <;> rfl
  rw [e9] at h9
  exact h9
theorem gd_callS {i m rr r4 n : Nat} {as : List MV} (hd : decode (mB mi) pc = .ok (.invokestatic i, 3)) (hck : ckCall mi m n = true) (hms : mS m = true)
    (hw : (if r4 = 0 then wAt rr (.methodLink (mO mi) i (mY m)) else decide (r4 = 1) && wNt rr (.methodLinkNest (mO mi) i (mY m) "TicketWindows")) = true) (hn : as.length = n) (h8 : st.length ≤ 8)
    (hS : StS Ln xs S) (hg : Gd l dC dI al cyC cyI cyO rho A Ln xs m (Rh l dC dI al cyC cyI cyO rho A m r1 S1) 0 (ini m as) [] S) (kg : Gd l dC dI al cyC cyI cyO rho A Ln xs mi KK (pc + 3) L (r1.toList ++ st) S1) :
    Gd l dC dI al cyC cyI cyO rho A Ln xs mi KK pc L (as.reverse ++ st) S := by
  intro p e R s mm args below meth c0 H locs cells slots Q ls hC hP hS1 hl hR
  obtain ⟨hx, hb, hml, hown, hts, hSt, hf, hlo, hcs, hss, hAD⟩ := id hC
  simp only [ckCall, Bool.and_eq_true, decide_eq_true_eq] at hck
  obtain ⟨⟨⟨⟨⟨c0', c1⟩, c2⟩, c3⟩, c4⟩, c5⟩ := hck
  rw [hms] at c0'
  obtain ⟨z1, z2, z3, z4, z5⟩ := ckM_use c1 c2
  rw [hms] at z2
  simp only [↓reduceIte] at z2
  have hM := met_of (l := l) (A := A) (Ln := Ln) (xs := xs) (dC := dC) (dI := dI) (al := al) hAD c1 c2 (as := as) (S := S) (S' := S1) (r := r1) (by simp at c0'; omega) hg
  have hGI : GoodIn GW (.code (mY m) (mB m) (mL m) (mR m) :: GW) := fun w hw2 => by
    rcases List.mem_cons.mp hw2 with h | h
    · rw [h]; exact GW_good _ (GW_in z1)
    · exact GW_good w h
  have hPS : PreS s H (PcR dC dI al cyC cyI cyO rho A Ln xs as S) (as.map (cvv rho)) := ⟨PcR_blind _ _, fun U hU hW => ⟨rfl, by rw [hU]; exact hP, St0_next hSt hAD.1 hS1 hU hW⟩⟩
  have hrun : va_Run p l e R s mm args below meth c0 H locs cells slots 0 0 (F0 mm pc ls ((as.reverse ++ st).map (cvv rho))) (st.map (cvv rho)) (QcR dC dI al cyC cyI cyO rho A r1 S1 (as.map (cvv rho)).toArray) A := by
    split at hw
    · exact va_runS (n := n) ⟨hx, hb, hml, hown, hts⟩ hM ⟨callB_of n hts hGI rfl rfl rfl (hts _ (GW_in z3)) (hts _ (GW_in hw)) ⟨z4, z5, c5⟩ ⟨Nat.le_trans c3 hf, Nat.le_trans c4 hlo⟩, hts _ (GW_in z2)⟩ hPS rfl (by rw [List.length_map]; exact hn) hl.2.1 (by simp) (lv_room (by rw [sum_cat]; exact h8)) hd ⟨hcs, hss⟩
    · simp only [Bool.and_eq_true, wNt, decide_eq_true_eq] at hw
      exact va_runSN (n := n) ⟨hx, hb, hml, hown, hts⟩ hM ⟨va_cnB n hts hGI rfl rfl rfl (hSt.2.1 _ _ hw.2 rfl) (hts _ (GW_in z3)) ⟨z4, z5, c5⟩ ⟨Nat.le_trans c3 hf, Nat.le_trans c4 hlo⟩, hts _ (GW_in z2), trivial⟩ hPS rfl (by rw [List.length_map]; exact hn) hl.2.1 (by simp) (lv_room (by rw [sum_cat]; exact h8)) hd ⟨hcs, hss⟩
  refine call_go hrun hS1 (fun H1 locs1 hP1 hS2 => ?_)
  have h9 := kg p e R s mm args below meth c0 H1 locs1 cells slots Q ls hC hP1 hS2 hl hR
  rw [List.map_append] at h9
  have e9 : (r1.toList).map (cvv rho) = (r1.map (cvv rho)).toList := by cases r1 <;> rfl
  rw [e9] at h9
  exact h9
end SND
end
section
/-! THE SMALL MACHINE IS TRUE: by induction on its steps -/
/-- what a step must lead to: CC holds behind it, and Gd of the next state -/
def NX (l : Launch) (dC : Nat → ClassId) (dI : Nat → Nat → Nat) (al : Nat) (cyC cyI cyO : ClassId) (rho : Nat → Nat → Nat) (A : Nat → Prop) (Ln : Nat) (xs : Int → Int) (KK : KT) (CC : Prop) (mi pc : Nat) (L : Lc) (st : List MV) (S : Hp) : Prop :=
  StS Ln xs S → (∀ (i : Nat) (v : MV), L[i]? = some (some v) → vM al v) → (∀ v ∈ st, vM al v) → CC ∧ Gd l dC dI al cyC cyI cyO rho A Ln xs mi KK pc L st S
def fw (l : Launch) (dC : Nat → ClassId) (dI : Nat → Nat → Nat) (al : Nat) (cyC cyI cyO : ClassId) (rho : Nat → Nat → Nat) (A : Nat → Prop) (Ln : Nat) (xs : Int → Int) (KK : KT) (CC : Prop) (mi : Nat) : Option Rs → Prop :=
  fo False (fun pc L st S => NX l dC dI al cyC cyI cyO rho A Ln xs KK CC mi pc L st S)
    (fun m as pc L st S => m < mN → StS Ln xs S → (∀ v ∈ as, vM al v) → ∃ (v : Option MV) (S1 : Hp), StS Ln xs S1 ∧ (∀ w, v = some w → vM al w) ∧ Gd l dC dI al cyC cyI cyO rho A Ln xs m (Rh l dC dI al cyC cyI cyO rho A m v S1) 0 (ini m as) [] S ∧ NX l dC dI al cyC cyI cyO rho A Ln xs KK CC mi pc L (v.toList ++ st) S1)
    (fun v S => StS Ln xs S → (∀ w, v = some w → vM al w) → CC ∧ ∀ (pc : Nat) (L : Lc) (st : List MV), retAt mi pc v → st.map (cvv rho) = (v.map (cvv rho)).toList → Gd l dC dI al cyC cyI cyO rho A Ln xs mi KK pc L st S)
section FE
variable {l : Launch} {dC : Nat → ClassId} {dI : Nat → Nat → Nat} {al : Nat} {cyC cyI cyO : ClassId} {rho : Nat → Nat → Nat} {A : Nat → Prop} {Ln : Nat} {xs : Int → Int} {KK : KT} {CC : Prop} {mi : Nat}
theorem fe_none {P : Prop} (h : fw l dC dI al cyC cyI cyO rho A Ln xs KK CC mi none) : P := h.elim
theorem fe_ite {c : Prop} {d : Decidable c} {a : Option Rs} (h : fw l dC dI al cyC cyI cyO rho A Ln xs KK CC mi (@ite _ c d a none)) : c ∧ fw l dC dI al cyC cyI cyO rho A Ln xs KK CC mi a := by
  split at h
  · exact ⟨by assumption, h⟩
  · exact h.elim
theorem fe_gI {L : Lc} {i : Nat} {f : Int → Option Rs} (h : fw l dC dI al cyC cyI cyO rho A Ln xs KK CC mi (gI L i f)) : ∃ z, L[i]? = some (some (.inl z)) ∧ fw l dC dI al cyC cyI cyO rho A Ln xs KK CC mi (f z) := by
  unfold gI at h
  split at h
  · next z hz => exact ⟨z, hz, h⟩
  · exact h.elim
theorem fe_gA {L : Lc} {i : Nat} {f : Nat × Nat → Option Rs} (h : fw l dC dI al cyC cyI cyO rho A Ln xs KK CC mi (gA L i f)) : ∃ z, L[i]? = some (some (.inr z)) ∧ fw l dC dI al cyC cyI cyO rho A Ln xs KK CC mi (f z) := by
  unfold gA at h
  split at h
  · next z hz => exact ⟨z, hz, h⟩
  · exact h.elim
theorem fe_sI {L : Lc} {i : Nat} {st : List MV} {f : Lc → List MV → Option Rs} (h : fw l dC dI al cyC cyI cyO rho A Ln xs KK CC mi (sI L i st f)) : ∃ z st', st = .inl z :: st' ∧ i < L.length ∧ fw l dC dI al cyC cyI cyO rho A Ln xs KK CC mi (f (L.set i (some (.inl z))) st') := by
  unfold sI at h
  split at h
  · next z st' => exact ⟨z, st', rfl, fe_ite h⟩
  · exact h.elim
theorem fe_sA {L : Lc} {i : Nat} {st : List MV} {f : Lc → List MV → Option Rs} (h : fw l dC dI al cyC cyI cyO rho A Ln xs KK CC mi (sA L i st f)) : ∃ z st', st = .inr z :: st' ∧ i < L.length ∧ fw l dC dI al cyC cyI cyO rho A Ln xs KK CC mi (f (L.set i (some (.inr z))) st') := by
  unfold sA at h
  split at h
  · next z st' => exact ⟨z, st', rfl, fe_ite h⟩
  · exact h.elim
theorem fe_bi {st : List MV} {f : Int → Int → List MV → Option Rs} (h : fw l dC dI al cyC cyI cyO rho A Ln xs KK CC mi (bi st f)) : ∃ u v st', st = .inl v :: .inl u :: st' ∧ fw l dC dI al cyC cyI cyO rho A Ln xs KK CC mi (f u v st') := by
  unfold bi at h
  split at h
  · next v u st' => exact ⟨u, v, st', rfl, h⟩
  · exact h.elim
theorem fe_gF {k c j : Nat} {S : Hp} {f : MV → Option Rs} (h : fw l dC dI al cyC cyI cyO rho A Ln xs KK CC mi (gF k c j S f)) : ∃ t, (kF c)[j]? = some t ∧ fw l dC dI al cyC cyI cyO rho A Ln xs KK CC mi (f (fM S k c j)) := by
  cases hk : (kF c)[j]? with
  | none => unfold gF at h; rw [hk] at h; exact h.elim
  | some t => rw [gF_fM hk] at h; exact ⟨t, rfl, h⟩
end FE
theorem vL_set {al : Nat} {L : Lc} {j : Nat} {w : MV} (h : ∀ (i : Nat) (v : MV), L[i]? = some (some v) → vM al v) (hw : vM al w) : ∀ (i : Nat) (v : MV), (L.set j (some w))[i]? = some (some v) → vM al v := by
  intro i v hv
  rw [List.getElem?_set] at hv
  split at hv
  · split at hv
    · cases hv; exact hw
    · cases hv
  · exact h i v hv
theorem kF_arr : ∀ c, c < 36 → kT c = 2 ∨ kT c = 3 ∨ kT c = 4 → kF c = [] := by decide +kernel
theorem StS_hu {Ln : Nat} {xs : Int → Int} {S : Hp} {k c : Nat} {j v : Int} (hS : StS Ln xs S) (hc : c < 36) (hv : (kF c)[j.toNat]? = some 2 ∨ kT c = 4 → 0 ≤ v ∧ v < 7) : StS Ln xs (hu S k c j v) := by
  obtain ⟨⟨h1, h2⟩, h3, h4⟩ := hS
  refine ⟨⟨fun k' c' j' hk hq => ?_, fun k' c' j' hk ht hj0 hj1 => ?_⟩, ?_, fun i => ?_⟩
  · unfold hu
    split
    · next e =>
      obtain ⟨rfl, rfl, e3⟩ := e
      refine hv (Or.inl ?_)
      have : j.toNat = j' := by omega
      rw [this]; exact hq
    · exact h1 k' c' j' hk hq
  · unfold hu
    split
    · next e =>
      obtain ⟨rfl, rfl, e3⟩ := e
      exact hv (Or.inr ht)
    · exact h2 k' c' j' hk ht hj0 hj1
  · unfold hu
    rw [if_neg (by omega)]
    exact h3
  · unfold hu
    rw [if_neg (by omega)]
    exact h4 i
theorem StS_hcp {Ln : Nat} {xs : Int → Int} {S : Hp} {k1 c1 k2 c2 : Nat} {sp dp n : Int} (hS : StS Ln xs S) (h2t : kT c2 = 2) : StS Ln xs (hcp S k1 c1 sp k2 c2 dp n) := by
  obtain ⟨⟨h1, h2⟩, h3, h4⟩ := hS
  have hc := kT_lt c2 (by omega)
  refine ⟨⟨fun k' c' j' hk hq => ?_, fun k' c' j' hk ht hj0 hj1 => ?_⟩, ?_, fun i => ?_⟩
  · unfold hcp
    rw [if_neg (fun e => by rw [e.2.1, kF_arr c2 hc (Or.inl h2t)] at hq; cases hq)]
    exact h1 k' c' j' hk hq
  · unfold hcp
    rw [if_neg (fun e => by rw [e.2.1] at ht; omega)]
    exact h2 k' c' j' hk ht hj0 hj1
  · unfold hcp
    rw [if_neg (by omega)]
    exact h3
  · unfold hcp
    rw [if_neg (by omega)]
    exact h4 i
theorem vM_ref {al k c : Nat} (h : vM al (.inr (k, c))) (hc : c < 36) : k < kK al c := by
  rcases h with h | h
  · exact h.2
  · have := h.1
    dsimp only at this
    omega
theorem vst_1 {al : Nat} {a b : MV} {st : List MV} (h : ∀ w ∈ a :: st, vM al w) (hb : vM al b) : ∀ w ∈ b :: st, vM al w := by
  intro w hw
  rcases List.mem_cons.mp hw with rfl | h1
  · exact hb
  · exact h w (List.mem_cons_of_mem _ h1)
theorem vst_0 {al : Nat} {b : MV} {st : List MV} (h : ∀ w ∈ st, vM al w) (hb : vM al b) : ∀ w ∈ b :: st, vM al w := by
  intro w hw
  rcases List.mem_cons.mp hw with rfl | h1
  · exact hb
  · exact h w h1
theorem vst_t {al : Nat} {a : MV} {st : List MV} (h : ∀ w ∈ a :: st, vM al w) : ∀ w ∈ st, vM al w := fun w hw => h w (List.mem_cons_of_mem _ hw)
theorem kT_4 : ∀ c, c < 36 → kT c = 4 → c < 30 := by decide +kernel
section SND
variable {l : Launch} {dC : Nat → ClassId} {dI : Nat → Nat → Nat} {al : Nat} {cyC cyI cyO : ClassId} {rho : Nat → Nat → Nat} {A : Nat → Prop} {Ln : Nat} {xs : Int → Int}
theorem c2_is {t f : Option Rs} {u v : Int} (c : Jvm.ClassFile.Cond) {KK : KT} {CC : Prop} {mi : Nat} (h : fw l dC dI al cyC cyI cyO rho A Ln xs KK CC mi (c2 t f u v c)) :
    (match c with
      | .eq => u = v | .ne => ¬ u = v ∧ (inR u ∧ inR v) | .lt => u < v ∧ (inR u ∧ inR v) | .ge => ¬ u < v ∧ (inR u ∧ inR v) | .gt => v < u ∧ (inR u ∧ inR v) | .le => ¬ v < u ∧ (inR u ∧ inR v)) ∧ fw l dC dI al cyC cyI cyO rho A Ln xs KK CC mi t ∨
    (match c with
      | .eq => ¬ (u = v) ∧ (inR u ∧ inR v) | .ne => ¬ (¬ u = v) | .lt => ¬ (u < v) ∧ (inR u ∧ inR v) | .ge => ¬ (¬ u < v) ∧ (inR u ∧ inR v) | .gt => ¬ (v < u) ∧ (inR u ∧ inR v) | .le => ¬ (¬ v < u) ∧ (inR u ∧ inR v)) ∧ fw l dC dI al cyC cyI cyO rho A Ln xs KK CC mi f := by
  cases c <;> simp only [c2] at h
  case eq =>
    split at h
    · next e => exact Or.inl ⟨e, h⟩
    · next e => obtain ⟨h1, h2⟩ := fe_ite h; exact Or.inr ⟨⟨e, h1⟩, h2⟩
  case ne =>
    split at h
    · next e => exact Or.inr ⟨fun g => g e, h⟩
    · next e => obtain ⟨h1, h2⟩ := fe_ite h; exact Or.inl ⟨⟨e, h1⟩, h2⟩
  all_goals
    obtain ⟨h1, h2⟩ := fe_ite h
    split at h2
    · next e => first | exact Or.inl ⟨⟨e, h1⟩, h2⟩ | exact Or.inr ⟨⟨fun g => g e, h1⟩, h2⟩
    · next e => first | exact Or.inr ⟨⟨e, h1⟩, h2⟩ | exact Or.inl ⟨⟨e, h1⟩, h2⟩
/-- ONE STEP IS TRUE -/
theorem stp (hLn : Ln < 2147483648) {KK : KT} {CC : Prop} {mi pc : Nat} {L : Lc} {st : List MV} {S : Hp} (h : fw l dC dI al cyC cyI cyO rho A Ln xs KK CC mi (stR mi pc L st S)) (hm : mi < mN) (hS : StS Ln xs S) (hL : ∀ (i : Nat) (v : MV), L[i]? = some (some v) → vM al v) (hst : ∀ v ∈ st, vM al v) :
    CC ∧ Gd l dC dI al cyC cyI cyO rho A Ln xs mi KK pc L st S := by
  unfold stR at h
  split at h
  · exact fe_none h
  · next ins len r1 r2 r34 heq =>
    obtain ⟨r3, r4⟩ := r34
    have hp : pc < mZ mi := by
      rcases Nat.lt_or_ge pc (mZ mi) with g | g
      · exact g
      · rw [if_neg (by omega)] at heq; cases heq
    rw [if_pos hp] at heq
    have hk := ck_all hm hp
    unfold ckAt at hk
    rw [heq] at hk
    simp only [Bool.and_eq_true, decide_eq_true_eq] at hk
    obtain ⟨hd, hlk⟩ := hk
    cases ins
    case iload_n i =>
      obtain ⟨z, hz, h⟩ := fe_gI h
      obtain ⟨g1, g3⟩ := h hS hL (vst_0 hst trivial)
      exact ⟨g1, gd_iload_n hd hz g3⟩
    case iload i =>
      obtain ⟨z, hz, h⟩ := fe_gI h
      obtain ⟨g1, g3⟩ := h hS hL (vst_0 hst trivial)
      exact ⟨g1, gd_iload hd hz g3⟩
    case aload_n i =>
      obtain ⟨z, hz, h⟩ := fe_gA h
      obtain ⟨g1, g3⟩ := h hS hL (vst_0 hst (hL _ _ hz))
      exact ⟨g1, gd_aload_n hd hz g3⟩
    case aload i =>
      obtain ⟨z, hz, h⟩ := fe_gA h
      obtain ⟨g1, g3⟩ := h hS hL (vst_0 hst (hL _ _ hz))
      exact ⟨g1, gd_aload hd hz g3⟩
    case istore_n i =>
      simp only [stI] at h
      obtain ⟨z, st', rfl, hi, h⟩ := fe_sI h
      obtain ⟨g1, g3⟩ := h hS (vL_set hL trivial) (vst_t hst)
      exact ⟨g1, gd_istore_n hd hi g3⟩
    case istore i =>
      simp only [stI] at h
      obtain ⟨z, st', rfl, hi, h⟩ := fe_sI h
      obtain ⟨g1, g3⟩ := h hS (vL_set hL trivial) (vst_t hst)
      exact ⟨g1, gd_istore hd hi g3⟩
    case astore_n i =>
      simp only [stI] at h
      obtain ⟨z, st', rfl, hi, h⟩ := fe_sA h
      obtain ⟨g1, g3⟩ := h hS (vL_set hL (hst _ List.mem_cons_self)) (vst_t hst)
      exact ⟨g1, gd_astore_n hd hi g3⟩
    case astore i =>
      simp only [stI] at h
      obtain ⟨z, st', rfl, hi, h⟩ := fe_sA h
      obtain ⟨g1, g3⟩ := h hS (vL_set hL (hst _ List.mem_cons_self)) (vst_t hst)
      exact ⟨g1, gd_astore hd hi g3⟩
    case iconst z =>
      obtain ⟨g1, g3⟩ := h hS hL (vst_0 hst trivial)
      exact ⟨g1, gd_iconst hd g3⟩
    case bipush z =>
      obtain ⟨g1, g3⟩ := h hS hL (vst_0 hst trivial)
      exact ⟨g1, gd_bipush hd (of_decide_eq_true hlk) g3⟩
    case sipush z =>
      obtain ⟨g1, g3⟩ := h hS hL (vst_0 hst trivial)
      exact ⟨g1, gd_sipush hd (of_decide_eq_true hlk) g3⟩
    case ldc i =>
      obtain ⟨g1, g3⟩ := h hS hL (vst_0 hst trivial)
      exact ⟨g1, gd_ldc hd hlk g3⟩
    case ldc_w i =>
      obtain ⟨g1, g3⟩ := h hS hL (vst_0 hst trivial)
      exact ⟨g1, gd_ldc_w hd hlk g3⟩
    case iadd =>
      obtain ⟨u, v, st', rfl, h⟩ := fe_bi h
      obtain ⟨g1, g3⟩ := h hS hL (vst_0 (vst_t (vst_t hst)) trivial)
      exact ⟨g1, gd_iadd hd g3⟩
    case isub =>
      obtain ⟨u, v, st', rfl, h⟩ := fe_bi h
      obtain ⟨g1, g3⟩ := h hS hL (vst_0 (vst_t (vst_t hst)) trivial)
      exact ⟨g1, gd_isub hd g3⟩
    case imul =>
      obtain ⟨u, v, st', rfl, h⟩ := fe_bi h
      obtain ⟨g1, g3⟩ := h hS hL (vst_0 (vst_t (vst_t hst)) trivial)
      exact ⟨g1, gd_imul hd g3⟩
    case iand =>
      obtain ⟨u, v, st', rfl, h⟩ := fe_bi h
      obtain ⟨g1, g3⟩ := h hS hL (vst_0 (vst_t (vst_t hst)) trivial)
      exact ⟨g1, gd_iand hd g3⟩
    case ior =>
      obtain ⟨u, v, st', rfl, h⟩ := fe_bi h
      obtain ⟨g1, g3⟩ := h hS hL (vst_0 (vst_t (vst_t hst)) trivial)
      exact ⟨g1, gd_ior hd g3⟩
    case ixor =>
      obtain ⟨u, v, st', rfl, h⟩ := fe_bi h
      obtain ⟨g1, g3⟩ := h hS hL (vst_0 (vst_t (vst_t hst)) trivial)
      exact ⟨g1, gd_ixor hd g3⟩
    case idiv =>
      obtain ⟨u, v, st', rfl, h⟩ := fe_bi h
      obtain ⟨hy, h⟩ := fe_ite h
      obtain ⟨g1, g3⟩ := h hS hL (vst_0 (vst_t (vst_t hst)) trivial)
      exact ⟨g1, gd_idiv hd hy g3⟩
    case irem =>
      obtain ⟨u, v, st', rfl, h⟩ := fe_bi h
      obtain ⟨hy, h⟩ := fe_ite h
      obtain ⟨g1, g3⟩ := h hS hL (vst_0 (vst_t (vst_t hst)) trivial)
      exact ⟨g1, gd_irem hd hy g3⟩
    case ishl =>
      obtain ⟨u, v, st', rfl, h⟩ := fe_bi h
      obtain ⟨hy, h⟩ := fe_ite h
      obtain ⟨g1, g3⟩ := h hS hL (vst_0 (vst_t (vst_t hst)) trivial)
      exact ⟨g1, gd_ishl hd hy g3⟩
    case ishr =>
      obtain ⟨u, v, st', rfl, h⟩ := fe_bi h
      obtain ⟨hy, h⟩ := fe_ite h
      obtain ⟨g1, g3⟩ := h hS hL (vst_0 (vst_t (vst_t hst)) trivial)
      exact ⟨g1, gd_ishr hd hy g3⟩
    case iushr =>
      obtain ⟨u, v, st', rfl, h⟩ := fe_bi h
      obtain ⟨hy, h⟩ := fe_ite h
      obtain ⟨g1, g3⟩ := h hS hL (vst_0 (vst_t (vst_t hst)) trivial)
      exact ⟨g1, gd_iushr hd hy g3⟩
    case iinc i z =>
      obtain ⟨u, hu, h⟩ := fe_gI h
      obtain ⟨hi, h⟩ := fe_ite h
      obtain ⟨g1, g3⟩ := h hS (vL_set hL trivial) hst
      exact ⟨g1, gd_iinc hd hu hi g3⟩
    case i2c =>
      match st, h, hst with
      | .inl z :: st, h, hst =>
        obtain ⟨g1, g3⟩ := h hS hL (vst_1 hst trivial)
        exact ⟨g1, gd_i2c hd g3⟩
      | [], h, _ => exact fe_none h
      | .inr _ :: _, h, _ => exact fe_none h
    case dup =>
      match st, h, hst with
      | v :: st, h, hst =>
        obtain ⟨g1, g3⟩ := h hS hL (vst_0 hst (hst _ List.mem_cons_self))
        exact ⟨g1, gd_dup hd g3⟩
      | [], h, _ => exact fe_none h
    case dup2 =>
      match st, h, hst with
      | v :: u :: st, h, hst =>
        obtain ⟨g1, g3⟩ := h hS hL (vst_0 (vst_0 hst (hst _ (List.mem_cons_of_mem _ List.mem_cons_self))) (hst _ List.mem_cons_self))
        exact ⟨g1, gd_dup2 hd g3⟩
      | [], h, _ => exact fe_none h
      | [_], h, _ => exact fe_none h
    case pop =>
      match st, h, hst with
      | v :: st, h, hst =>
        obtain ⟨g1, g3⟩ := h hS hL (vst_t hst)
        exact ⟨g1, gd_pop hd g3⟩
      | [], h, _ => exact fe_none h
    case goto i =>
      obtain ⟨g1, g3⟩ := h hS hL hst
      exact ⟨g1, gd_goto hd (of_decide_eq_true hlk) g3⟩
    case if_icmp c i =>
      obtain ⟨u, v, st', rfl, h⟩ := fe_bi h
      have ht := of_decide_eq_true hlk
      have hs := vst_t (vst_t hst)
      rcases c2_is c h with ⟨hc, h⟩ | ⟨hc, h⟩
      · obtain ⟨g1, g3⟩ := h hS hL hs
        refine ⟨g1, ?_⟩
        cases c
        case eq => exact gd_icmp_eq_t hd ht hc g3
        case ne => exact gd_icmp_ne_t hd ht hc.1 hc.2 g3
        case lt => exact gd_icmp_lt_t hd ht hc.1 hc.2 g3
        case ge => exact gd_icmp_ge_t hd ht hc.1 hc.2 g3
        case gt => exact gd_icmp_gt_t hd ht hc.1 hc.2 g3
        case le => exact gd_icmp_le_t hd ht hc.1 hc.2 g3
      · obtain ⟨g1, g3⟩ := h hS hL hs
        refine ⟨g1, ?_⟩
        cases c
        case eq => exact gd_icmp_eq_f hd ht hc.1 hc.2 g3
        case ne => exact gd_icmp_ne_f hd ht hc g3
        case lt => exact gd_icmp_lt_f hd ht hc.1 hc.2 g3
        case ge => exact gd_icmp_ge_f hd ht hc.1 hc.2 g3
        case gt => exact gd_icmp_gt_f hd ht hc.1 hc.2 g3
        case le => exact gd_icmp_le_f hd ht hc.1 hc.2 g3
    case ifCond c i =>
      match st, h, hst with
      | .inl u :: st, h, hst =>
        have ht := of_decide_eq_true hlk
        have hs := vst_t hst
        rcases c2_is c h with ⟨hc, h⟩ | ⟨hc, h⟩
        · obtain ⟨g1, g3⟩ := h hS hL hs
          refine ⟨g1, ?_⟩
          cases c
          case eq => exact gd_if_eq_t hd ht hc g3
          case ne => exact gd_if_ne_t hd ht hc.1 hc.2 g3
          case lt => exact gd_if_lt_t hd ht hc.1 hc.2 g3
          case ge => exact gd_if_ge_t hd ht hc.1 hc.2 g3
          case gt => exact gd_if_gt_t hd ht hc.1 hc.2 g3
          case le => exact gd_if_le_t hd ht hc.1 hc.2 g3
        · obtain ⟨g1, g3⟩ := h hS hL hs
          refine ⟨g1, ?_⟩
          cases c
          case eq => exact gd_if_eq_f hd ht hc.1 hc.2 g3
          case ne => exact gd_if_ne_f hd ht hc g3
          case lt => exact gd_if_lt_f hd ht hc.1 hc.2 g3
          case ge => exact gd_if_ge_f hd ht hc.1 hc.2 g3
          case gt => exact gd_if_gt_f hd ht hc.1 hc.2 g3
          case le => exact gd_if_le_f hd ht hc.1 hc.2 g3
      | [], h, _ => exact fe_none h
      | .inr _ :: _, h, _ => exact fe_none h
    case tableswitch d lo hi os =>
      match st, h, hst with
      | .inl z :: st, h, hst =>
        obtain ⟨hz, h⟩ := fe_ite h
        simp only [ckL, Bool.and_eq_true, decide_eq_true_eq] at hlk
        obtain ⟨⟨k1, k2⟩, k3⟩ := hlk
        rcases tsw_is L st S pc d z os.toList lo with ⟨-, -, o, -, e⟩ | ⟨-, e⟩
        · rw [e] at h
          obtain ⟨g1, g3⟩ := h hS hL (vst_t hst)
          exact ⟨g1, gd_tsw hd hz k1 k2 k3 e g3⟩
        · rw [e] at h
          obtain ⟨g1, g3⟩ := h hS hL (vst_t hst)
          exact ⟨g1, gd_tsw hd hz k1 k2 k3 e g3⟩
      | [], h, _ => exact fe_none h
      | .inr _ :: _, h, _ => exact fe_none h
    case lookupswitch d ps =>
      match st, h, hst with
      | .inl z :: st, h, hst =>
        obtain ⟨hz, h⟩ := fe_ite h
        simp only [ckL, Bool.and_eq_true, decide_eq_true_eq] at hlk
        obtain ⟨⟨k1, k2⟩, k3⟩ := hlk
        have e := (lsw_is L st S pc d z ps.toList).1
        rw [e] at h
        obtain ⟨g1, g3⟩ := h hS hL (vst_t hst)
        exact ⟨g1, gd_lsw hd hz k1 k2 k3 e g3⟩
      | [], h, _ => exact fe_none h
      | .inr _ :: _, h, _ => exact fe_none h
    case getfield i =>
      match st, h, hst with
      | .inr (k, c) :: st, h, hst =>
        obtain ⟨rfl, h⟩ := fe_ite h
        simp only [ckL, Bool.and_eq_true, decide_eq_true_eq] at hlk
        obtain ⟨⟨k1, k2⟩, k3⟩ := hlk
        obtain ⟨t, ht, h⟩ := fe_gF h
        have hk := vM_ref (hst _ List.mem_cons_self) k2
        obtain ⟨g1, g3⟩ := h hS hL (vst_1 hst (vM_fM hS.1 k2 hk ht))
        exact ⟨g1, gd_getfield hd k1 k2 hk ht k3 g3⟩
      | [], h, _ => exact fe_none h
      | .inl _ :: _, h, _ => exact fe_none h
    case putfield i =>
      match st, h, hst with
      | v :: .inr (k, c) :: st, h, hst =>
        obtain ⟨rfl, h⟩ := fe_ite h
        simp only [ckL, Bool.and_eq_true, Bool.or_eq_true, decide_eq_true_eq] at hlk
        obtain ⟨⟨⟨k1, k2⟩, k3⟩, k4⟩ := hlk
        have hk := vM_ref (hst _ (List.mem_cons_of_mem _ List.mem_cons_self)) k2
        have ho2 : ∀ {z : Int} (i : Nat), i ≠ r2 → hu S k c r2 z k c i = S k c i := fun i hi => by rw [hu_at, if_neg (by omega)]
        unfold pF at h
        split at h
        · next z hq _ =>
          rcases k4 with k4 | ⟨k4, (k5 | k5) | k5⟩
          · rw [hq] at k4; simp at k4
          · obtain ⟨g1, g3⟩ := h (StS_hu hS k2 (by rw [Int.toNat_natCast, hq]; rintro (e | e); cases e; omega)) hL (vst_t (vst_t hst))
            exact ⟨g1, gd_putfield (v := .inl z) hd k1 k2 hk hq k3 (by simpa using k4) k5.2 rfl rfl (by unfold fM; rw [hq]; show cvv rho (.inl (hu S k c r2 z k c r2)) = _; rw [hu_at, if_pos rfl]) hu_off ho2 g3⟩
          · rw [hq] at k5; cases k5.1
          · rw [hq] at k5; cases k5.1
        · next z hq _ =>
          obtain ⟨hz, h⟩ := fe_ite h
          rcases k4 with k4 | ⟨k4, (k5 | k5) | k5⟩
          · rw [hq] at k4; simp at k4
          · rw [hq] at k5; cases k5.1
          · obtain ⟨g1, g3⟩ := h (StS_hu hS k2 (by rw [Int.toNat_natCast, hq]; rintro (e | e); cases e; omega)) hL (vst_t (vst_t hst))
            exact ⟨g1, gd_putfield (v := .inl z) hd k1 k2 hk hq k3 (by simpa using k4) k5.2 (by rcases hz with rfl | rfl <;> rfl) (by rcases hz with rfl | rfl <;> rfl) (by unfold fM; rw [hq]; show cvv rho (.inl (hu S k c r2 z k c r2)) = _; rw [hu_at, if_pos rfl]) hu_off ho2 g3⟩
          · rw [hq] at k5; cases k5.1
        · next z hq _ =>
          have hz : z < 7 := vM_ref (hst _ List.mem_cons_self) (by decide)
          rcases k4 with k4 | ⟨k4, (k5 | k5) | k5⟩
          · rw [hq] at k4; simp at k4
          · rw [hq] at k5; cases k5.1
          · rw [hq] at k5; cases k5.1
          · obtain ⟨g1, g3⟩ := h (StS_hu hS k2 (fun _ => by omega)) hL (vst_t (vst_t hst))
            exact ⟨g1, gd_putfield (v := .inr (z, 0)) hd k1 k2 hk hq k3 (by simpa using k4) k5.2 rfl rfl (by unfold fM; rw [hq]; show cvv rho (.inr ((hu S k c r2 z k c r2).toNat, 0)) = _; rw [hu_at, if_pos rfl, Int.toNat_natCast]) hu_off ho2 g3⟩
        · exact fe_none h
      | [], h, _ => exact fe_none h
      | [_], h, _ => exact fe_none h
      | _ :: .inl _ :: _, h, _ => exact fe_none h
    case getstatic i =>
      simp only [ckL, Bool.and_eq_true, decide_eq_true_eq] at hlk
      obtain ⟨⟨k1, k2⟩, k3⟩ := hlk
      obtain ⟨g1, g3⟩ := h hS hL (vst_0 hst (Or.inr ⟨k1, by show r1 < 41; omega, rfl⟩))
      exact ⟨g1, gd_getstatic hd k1 k2 k3 g3⟩
    case iaload =>
      match st, h, hst with
      | .inl z :: .inr (k, c) :: st, h, hst =>
        have hv := hst _ (List.mem_cons_of_mem _ List.mem_cons_self)
        have hs := vst_t (vst_t hst)
        simp only [stI] at h
        split at h
        · next h1 =>
          obtain ⟨hz, h⟩ := fe_ite h
          obtain ⟨g1, g3⟩ := h hS hL (vst_0 hs trivial)
          exact ⟨g1, gd_iaload hd h1 (vM_ref hv (kT_lt c (by omega))) hz g3⟩
        · split at h
          · next h1 =>
            obtain ⟨hz, h⟩ := fe_ite h
            obtain ⟨g1, g3⟩ := h hS hL (vst_0 hs trivial)
            have hc : c < 41 := by rcases hv with hv | hv <;> simp only at hv <;> omega
            have hk : k = 0 := by
              rcases hv with hv | hv
              · have := (kT_5 c hc h1).1; simp only at hv; omega
              · exact hv.2.2
            subst hk
            exact ⟨g1, gd_iastatic hd h1 hc hz g3⟩
          · obtain ⟨h1, h2⟩ := fe_ite h
            obtain ⟨hz, h3⟩ := fe_ite h2
            clear h h2
            have hc : c < 41 := by rcases hv with hv | hv <;> simp only at hv <;> omega
            have hc2 := kT_6 c hc h1
            have hk : k = 0 := by
              rcases hv with hv | hv
              · simp only at hv; omega
              · exact hv.2.2
            subst hk
            subst hc2
            rw [hS.2.2] at h3
            rw [hS.2.1] at hz
            obtain ⟨g1, g3⟩ := h3 hS hL (vst_0 hs trivial)
            exact ⟨g1, gd_iascript hd hz hLn g3⟩
      | [], h, _ => exact fe_none h
      | [_], h, _ => cases ‹MV› <;> exact fe_none h
      | .inl _ :: .inl _ :: _, h, _ => exact fe_none h
      | .inr _ :: _ :: _, h, _ => exact fe_none h
    case iastore =>
      match st, h, hst with
      | .inl v :: .inl z :: .inr (k, c) :: st, h, hst =>
        obtain ⟨h1, h⟩ := fe_ite h
        obtain ⟨hz, h⟩ := fe_ite h
        have hc := kT_lt c (by omega)
        have hk := vM_ref (hst _ (List.mem_cons_of_mem _ (List.mem_cons_of_mem _ List.mem_cons_self))) hc
        obtain ⟨g1, g3⟩ := h (StS_hu hS hc (by rw [kF_arr c hc (Or.inl h1)]; rintro (e | e); cases e; omega)) hL (vst_t (vst_t (vst_t hst)))
        exact ⟨g1, gd_iastore hd h1 hk hz g3⟩
      | [], h, _ => exact fe_none h
      | [_], h, _ => cases ‹MV› <;> exact fe_none h
      | [.inl _, .inl _], h, _ => exact fe_none h
      | .inl _ :: .inr _ :: _, h, _ => exact fe_none h
      | .inr _ :: _ :: _, h, _ => exact fe_none h
      | .inl _ :: .inl _ :: .inl _ :: _, h, _ => exact fe_none h
    case caload =>
      match st, h, hst with
      | .inl z :: .inr (k, c) :: st, h, hst =>
        obtain ⟨h1, h⟩ := fe_ite h
        obtain ⟨hz, h⟩ := fe_ite h
        have hc := kT_lt c (by omega)
        have hk := vM_ref (hst _ (List.mem_cons_of_mem _ List.mem_cons_self)) hc
        obtain ⟨g1, g3⟩ := h hS hL (vst_0 (vst_t (vst_t hst)) trivial)
        exact ⟨g1, gd_caload hd h1 hk hz g3⟩
      | [], h, _ => exact fe_none h
      | [_], h, _ => cases ‹MV› <;> exact fe_none h
      | .inl _ :: .inl _ :: _, h, _ => exact fe_none h
      | .inr _ :: _ :: _, h, _ => exact fe_none h
    case castore =>
      match st, h, hst with
      | .inl v :: .inl z :: .inr (k, c) :: st, h, hst =>
        obtain ⟨h1, h⟩ := fe_ite h
        obtain ⟨⟨hz, hv⟩, h⟩ := fe_ite h
        have hc := kT_lt c (by omega)
        have hk := vM_ref (hst _ (List.mem_cons_of_mem _ (List.mem_cons_of_mem _ List.mem_cons_self))) hc
        obtain ⟨g1, g3⟩ := h (StS_hu hS hc (by rw [kF_arr c hc (Or.inr (Or.inl h1))]; rintro (e | e); cases e; omega)) hL (vst_t (vst_t (vst_t hst)))
        exact ⟨g1, gd_castore hd h1 hk hz hv g3⟩
      | [], h, _ => exact fe_none h
      | [_], h, _ => cases ‹MV› <;> exact fe_none h
      | [.inl _, .inl _], h, _ => exact fe_none h
      | .inl _ :: .inr _ :: _, h, _ => exact fe_none h
      | .inr _ :: _ :: _, h, _ => exact fe_none h
      | .inl _ :: .inl _ :: .inl _ :: _, h, _ => exact fe_none h
    case aaload =>
      match st, h, hst with
      | .inl z :: .inr (k, c) :: st, h, hst =>
        obtain ⟨h1, h⟩ := fe_ite h
        obtain ⟨hz, h⟩ := fe_ite h
        have hc := kT_lt c (by omega)
        have hk := vM_ref (hst _ (List.mem_cons_of_mem _ List.mem_cons_self)) hc
        have hk0 := hk
        rw [kK_lo (kT_4 c hc h1)] at hk0
        have hb := hS.1.2 k c z hk0 h1 hz.1 hz.2
        obtain ⟨g1, g3⟩ := h hS hL (vst_0 (vst_t (vst_t hst)) (Or.inl ⟨Nat.le_of_ble_eq_true rfl, by show _ < 7; omega⟩))
        exact ⟨g1, gd_aaload hd h1 hk hz g3⟩
      | [], h, _ => exact fe_none h
      | [_], h, _ => cases ‹MV› <;> exact fe_none h
      | .inl _ :: .inl _ :: _, h, _ => exact fe_none h
      | .inr _ :: _ :: _, h, _ => exact fe_none h
    case aastore =>
      simp only [stI] at h
      split at h
      · next q z k c st =>
        obtain ⟨h1, h⟩ := fe_ite h
        obtain ⟨hz, h⟩ := fe_ite h
        have hc := kT_lt c (by omega)
        have hk := vM_ref (hst _ (List.mem_cons_of_mem _ (List.mem_cons_of_mem _ List.mem_cons_self))) hc
        have hq : q < 7 := vM_ref (hst _ List.mem_cons_self) (by decide)
        obtain ⟨g1, g3⟩ := h (StS_hu hS hc (fun _ => by omega)) hL (vst_t (vst_t (vst_t hst)))
        exact ⟨g1, gd_aastore hd h1 hk hz hq g3⟩
      · exact fe_none h
    case arraylength =>
      match st, h, hst with
      | .inr (k, c) :: st, h, hst =>
        obtain ⟨h1, h3⟩ := fe_ite h
        clear h
        have hv := hst _ List.mem_cons_self
        have hc : c < 41 := by rcases hv with hv | hv <;> simp only at hv <;> omega
        have hc2 := kT_6 c hc h1
        have hk : k = 0 := by
          rcases hv with hv | hv
          · simp only at hv; omega
          · exact hv.2.2
        subst hk
        subst hc2
        rw [hS.2.1] at h3
        obtain ⟨g1, g3⟩ := h3 hS hL (vst_1 hst trivial)
        exact ⟨g1, gd_arraylength hd g3⟩
      | [], h, _ => exact fe_none h
      | .inl _ :: _, h, _ => exact fe_none h
    case invokevirtual i =>
      change fw l dC dI al cyC cyI cyO rho A Ln xs KK CC mi (match (st.take (r2 + 1)).reverse with
        | .inr (k, c) :: as => if c = mT r1 ∧ as.length = r2 ∧ (st.drop (r2 + 1)).length ≤ 8 then rC r1 (.inr (k, c) :: as) (pc + 3) L (st.drop (r2 + 1)) S else none
        | _ => none) at h
      split at h
      · next k c as hrev =>
        obtain ⟨⟨rfl, ha, h8⟩, h⟩ := fe_ite h
        simp only [ckL, Bool.and_eq_true, decide_eq_true_eq, Bool.not_eq_true'] at hlk
        obtain ⟨⟨⟨k1, k2⟩, k3⟩, k4⟩ := hlk
        have k0 := k1
        simp only [ckCall, Bool.and_eq_true, decide_eq_true_eq] at k0
        obtain ⟨⟨⟨⟨⟨-, c1⟩, c2⟩, -⟩, -⟩, -⟩ := k0
        have hz := (ckM_use c1 c2).2.1
        rw [k2] at hz
        simp only [Bool.and_eq_true, decide_eq_true_eq, Bool.false_eq_true, ↓reduceIte] at hz
        have htk : st.take (r2 + 1) = as.reverse ++ [.inr (k, mT r1)] := by
          have := congrArg List.reverse hrev
          simpa using this
        have hst' : st = as.reverse ++ .inr (k, mT r1) :: st.drop (r2 + 1) := by
          have := List.take_append_drop (r2 + 1) st
          rw [htk] at this
          simpa using this.symm
        have hk : k < kK al (mT r1) := vM_ref (hst (.inr (k, mT r1)) (by rw [hst']; simp)) hz.2
        have hvs : ∀ w ∈ (.inr (k, mT r1) :: as : List MV), vM al w := by
          intro w hw
          refine hst w ?_
          rw [hst']
          rcases List.mem_cons.mp hw with rfl | hw
          · simp
          · exact List.mem_append_left _ (List.mem_reverse.mpr hw)
        obtain ⟨v1, S1, e1, e2, e3, h⟩ := h c1 hS hvs
        have hs1 : ∀ w ∈ v1.toList ++ st.drop (r2 + 1), vM al w := by
          intro w hw
          rcases List.mem_append.mp hw with hw | hw
          · cases v1 with
            | none => cases hw
            | some u => simp at hw; subst hw; exact e2 _ rfl
          · exact hst w (List.mem_of_mem_drop hw)
        obtain ⟨g1, g3⟩ := h e1 hL hs1
        refine ⟨g1, ?_⟩
        rw [hst']
        exact gd_callV hd k1 k2 k4 hk ha h8 hS e3 g3
      · exact fe_none h
    case invokestatic i =>
      simp only [stI] at h
      split at h
      · next e9 =>
        split at h
        · next n' dp k2 c2 sp k1 c1 =>
          obtain ⟨⟨⟨t1, t2⟩, t3, t4, t5⟩, h⟩ := fe_ite h
          simp only [ckL, e9, ↓reduceIte, Bool.and_eq_true, decide_eq_true_eq] at hlk
          obtain ⟨⟨b1, b2⟩, b3⟩ := hlk
          have hk1 := vM_ref (hst (.inr (k1, c1)) (by simp)) (kT_lt c1 (by omega))
          have hk2 := vM_ref (hst (.inr (k2, c2)) (by simp)) (kT_lt c2 (by omega))
          obtain ⟨g1, g3⟩ := h (StS_hcp hS t2) hL (fun v hv => by cases hv)
          exact ⟨g1, gd_copy hd b1 b2 b3 t1 t2 hk1 hk2 t3 t4 t5 (by decide +kernel) (by decide +kernel) (by decide +kernel) g3⟩
        · exact fe_none h
      · next e9 =>
        obtain ⟨⟨ha, h8⟩, h⟩ := fe_ite h
        simp only [ckL, e9, ↓reduceIte, Bool.and_eq_true, decide_eq_true_eq] at hlk
        obtain ⟨⟨k1, k2⟩, k3⟩ := hlk
        have k0 := k1
        simp only [ckCall, Bool.and_eq_true, decide_eq_true_eq] at k0
        obtain ⟨⟨⟨⟨⟨-, c1⟩, c2⟩, -⟩, -⟩, -⟩ := k0
        have hst' : st = ((st.take r2).reverse).reverse ++ st.drop r2 := by
          rw [List.reverse_reverse, List.take_append_drop]
        obtain ⟨v1, S1, e1, e2, e3, h⟩ := h c1 hS (fun v hv => hst v (List.mem_of_mem_take (List.mem_reverse.mp hv)))
        have hs1 : ∀ w ∈ v1.toList ++ st.drop r2, vM al w := by
          intro w hw
          rcases List.mem_append.mp hw with hw | hw
          · cases v1 with
            | none => cases hw
            | some u => simp at hw; subst hw; exact e2 _ rfl
          · exact hst w (List.mem_of_mem_drop hw)
        obtain ⟨g1, g3⟩ := h e1 hL hs1
        refine ⟨g1, ?_⟩
        have h9 := gd_callS (st := st.drop r2) hd k1 k2 k3 (by rw [List.length_reverse]; exact ha) h8 hS e3 g3
        rw [← hst'] at h9
        exact h9
    case ireturn =>
      match st, h, hst with
      | [.inl z], h, hst =>
        simp only [stI] at h
        split at h
        · next hr =>
          obtain ⟨g1, g3⟩ := h hS (fun v hv => by cases hv; trivial)
          exact ⟨g1, g3 pc L [.inl z] (Or.inl ⟨z, rfl, hd, Or.inl hr⟩) rfl⟩
        · next hr =>
          obtain ⟨hz, h⟩ := fe_ite h
          obtain ⟨g1, g3⟩ := h hS (fun v hv => by cases hv; trivial)
          exact ⟨g1, g3 pc L [.inl z] (Or.inl ⟨z, rfl, hd, Or.inr ⟨hr, hz⟩⟩) rfl⟩
        · exact fe_none h
      | [], h, _ => exact fe_none h
      | [.inr _], h, _ => exact fe_none h
      | .inl _ :: _ :: _, h, _ => exact fe_none h
      | .inr _ :: _ :: _, h, _ => exact fe_none h
    case areturn =>
      match st, h, hst with
      | [.inr z], h, hst =>
        simp only [stI] at h
        split at h
        · next nn hr =>
          obtain ⟨g1, g3⟩ := h hS (fun v hv => by cases hv; exact hst _ List.mem_cons_self)
          exact ⟨g1, g3 pc L [.inr z] (Or.inr (Or.inl ⟨z, rfl, hd, Or.inl ⟨nn, hr⟩⟩)) rfl⟩
        · next nn hr =>
          obtain ⟨g1, g3⟩ := h hS (fun v hv => by cases hv; exact hst _ List.mem_cons_self)
          exact ⟨g1, g3 pc L [.inr z] (Or.inr (Or.inl ⟨z, rfl, hd, Or.inr ⟨nn, hr⟩⟩)) rfl⟩
        · exact fe_none h
      | [], h, _ => exact fe_none h
      | [.inl _], h, _ => exact fe_none h
      | .inl _ :: _ :: _, h, _ => exact fe_none h
      | .inr _ :: _ :: _, h, _ => exact fe_none h
    case return_ =>
      match st, h, hst with
      | [], h, hst =>
        simp only [stI] at h
        split at h
        · next hr =>
          obtain ⟨g1, g3⟩ := h hS (fun v hv => by cases hv)
          exact ⟨g1, g3 pc L [] (Or.inr (Or.inr ⟨rfl, hd, hr⟩)) rfl⟩
        · exact fe_none h
      | _ :: _, h, _ => exact fe_none h
    all_goals exact fe_none h
/-- THE SMALL MACHINE IS TRUE -/
theorem snd (hLn : Ln < 2147483648) : ∀ (n mi pc : Nat) (L : Lc) (st : List MV) (S : Hp) (r : Option MV) (S' : Hp), ex n mi pc L st S = some (r, S') → mi < mN → StS Ln xs S → (∀ (i : Nat) (v : MV), L[i]? = some (some v) → vM al v) → (∀ v ∈ st, vM al v) →
    (StS Ln xs S' ∧ (∀ v, r = some v → vM al v)) ∧ Gd l dC dI al cyC cyI cyO rho A Ln xs mi (Rh l dC dI al cyC cyI cyO rho A mi r S') pc L st S := by
  intro n
  induction n with
  | zero => intro mi pc L st S r S' h; simp [ex] at h
  | succ n ih =>
    intro mi pc L st S r S' h hm hS hL hst
    refine stp hLn ?_ hm hS hL hst
    rw [ex] at h
    match hr : stR mi pc L st S, h with
    | none, h => simp [fo] at h
    | some (.inl (pc', L', st', S1)), h =>
      show NX l dC dI al cyC cyI cyO rho A Ln xs _ _ mi pc' L' st' S1
      intro hS1 hL1 hst1
      exact ih _ _ _ _ _ _ _ h hm hS1 hL1 hst1
    | some (.inr (.inl (m', as, pc', L', st', S1))), h =>
      intro hm1 hS1 has
      simp only [fo] at h
      match h1 : ex n m' 0 (ini m' as) [] S1, h with
      | none, h => simp at h
      | some (v1, S2), h =>
        obtain ⟨⟨e1, e2⟩, e3⟩ := ih _ _ _ _ _ _ _ h1 hm1 hS1 (fun i v hv => has v (List.mem_of_getElem? (ini_some hv))) (fun v hv => by cases hv)
        refine ⟨v1, S2, e1, e2, e3, ?_⟩
        intro hS3 hL1 hst1
        exact ih _ _ _ _ _ _ _ h hm hS3 hL1 hst1
    | some (.inr (.inr (v', S1))), h =>
      simp only [fo, Option.some.injEq, Prod.mk.injEq] at h
      obtain ⟨rfl, rfl⟩ := h
      intro hS1 hv1
      exact ⟨⟨hS1, hv1⟩, fun pc L st hr1 hst1 => gd_ret hr1 hst1 rfl⟩
end SND
end
section
/-! BUILDING: helpers for the constructors -/
theorem P_mem {D : va_G} {cl : List vw_C} {ws : va_W} {H : Heap} : va_P D cl ws H ↔ ∀ q ∈ ws, va_at D cl q H := by
  constructor
  · intro h q hq
    obtain ⟨k, hk⟩ := List.getElem?_of_mem hq
    exact h k q hk
  · intro h k q hk
    exact h q (List.mem_of_getElem? hk)
theorem D_nd {A : Nat → Prop} {ws : va_W} : va_D A ws ↔ (ws.map Prod.fst).Nodup ∧ ∀ q ∈ ws, A q.1 := by
  constructor
  · intro h
    refine ⟨?_, fun q hq => ?_⟩
    · rw [List.nodup_iff_pairwise_ne, List.pairwise_iff_getElem]
      intro i j hi hj hij he
      rw [List.length_map] at hi hj
      rw [List.getElem_map, List.getElem_map] at he
      have := h.1 i j _ _ (List.getElem?_eq_getElem hi) (List.getElem?_eq_getElem hj) he
      omega
    · obtain ⟨k, hk⟩ := List.getElem?_of_mem hq
      exact h.2 k q hk
  · rintro ⟨h1, h2⟩
    refine ⟨fun i j p q hp hq hpq => ?_, fun k q hk => h2 q (List.mem_of_getElem? hk)⟩
    obtain ⟨hi, rfl⟩ := List.getElem?_eq_some_iff.mp hp
    obtain ⟨hj, rfl⟩ := List.getElem?_eq_some_iff.mp hq
    have h3 : (ws.map Prod.fst)[i]'(by rw [List.length_map]; exact hi) = (ws.map Prod.fst)[j]'(by rw [List.length_map]; exact hj) := by
      rw [List.getElem_map, List.getElem_map]; exact hpq
    exact (List.getElem_inj h1).mp h3
theorem fr_P {D : va_G} {cl : List vw_C} {ws : va_W} {c : Nat × va_E} {H : Heap} (h : va_P D cl (ws ++ [c]) H) : va_P D cl (c :: ws) H := by
  rw [P_mem] at h ⊢
  intro q hq
  refine h q ?_
  rcases List.mem_cons.mp hq with rfl | hq
  · simp
  · exact List.mem_append_left _ hq
theorem fr_D {A : Nat → Prop} {ws : va_W} {c : Nat × va_E} (h : va_D A (ws ++ [c])) : va_D A (c :: ws) := by
  rw [D_nd] at h ⊢
  obtain ⟨h1, h2⟩ := h
  refine ⟨?_, fun q hq => h2 q ?_⟩
  · rw [List.map_append] at h1
    rw [List.map_cons]
    exact (List.perm_append_comm (l₁ := ws.map Prod.fst) (l₂ := [c.1])).nodup_iff.mp h1
  · rcases List.mem_cons.mp hq with rfl | hq
    · simp
    · exact List.mem_append_left _ hq
/-- the last cell is a callee's: what it needs, and the join behind it -/
theorem jn_P {D : va_G} {cl : List vw_C} {wr : va_W} {c : Nat × va_E} {H : Heap} (h : va_P D cl (wr ++ [c]) H) : va_P D cl [c] H := by
  rw [P_mem] at h ⊢
  intro q hq
  exact h q (List.mem_append_right _ hq)
theorem jn_D {A : Nat → Prop} {wr : va_W} {c : Nat × va_E} (h : va_D A (wr ++ [c])) : A c.1 := (D_nd.mp h).2 c (by simp)
theorem map_idx {α : Type} (as bs : List α) : (List.range as.length).map (fun i => (as ++ bs)[i]?) = as.map some := by
  apply List.ext_getElem?
  intro i
  rw [List.getElem?_map, List.getElem?_map]
  by_cases h : i < as.length
  · rw [List.getElem?_range h]
    show some ((as ++ bs)[i]?) = _
    rw [List.getElem?_append_left h, List.getElem?_eq_getElem h]
    rfl
  · rw [List.getElem?_eq_none (by simpa using h), List.getElem?_eq_none (by simpa using h)]
    rfl
theorem jn {A : Nat → Prop} {D : va_G} {cl : List vw_C} {wr w1 : va_W} {c : Nat × va_E} {H H1 : Heap} (hP : va_P D cl (wr ++ [c]) H) (hD : va_D A (wr ++ [c])) (hk : ∀ q : Nat, q < H.size → ¬ va_A [c] H.size q → H1[q]? = H[q]?) (hF : ∀ q, va_A [c] H.size q → A q)
    (hP1 : va_P D cl w1 H1) (hD1 : va_D (va_A [c] H.size) w1) : va_P D cl (wr ++ w1) H1 ∧ va_D A (wr ++ w1) := by
  refine va_join (wc := [c]) (wr := wr) (w1 := w1) hP hD [wr.length] (List.range wr.length) ?_ (map_idx wr [c]) ?_ ?_ hk hF hP1 hD1
  · simp
  · have : ∀ l : List Nat, l.Nodup → va_nd l = true := by
      intro l
      induction l with
      | nil => intro _; rfl
      | cons a l ih =>
        intro h
        rw [List.nodup_cons] at h
        unfold va_nd
        simp [ih h.2, h.1]
    exact this _ List.nodup_range
  · intro i hi hi2
    simp at hi hi2
    omega
/-- a new array of a kind that is known -/
theorem nw_arr {p : Program} {l : Launch} {e : Env} {R : Room} {s : State} {m : MethodId} {args : Array Value} {below : List Frame} {meth : Method} {c : Code} {H : Heap} {locs : List Loc} {cells slots : Nat} {Q : State → Prop} {cc : ByteArray} {pc : Nat} {ls : Array Slot} {rest : List Value} {D : va_G} {cl : List vw_C} {tys : List (ClassId × FieldType)} {ws : va_W} {A : Nat → Prop} {H0 : Heap}
    (hexec : p.tables.exec = Jvm.exec) (hb : c.code = cc) {atype : ArrayType} (harr : (Cond.arrayClass (newarray.typeOf atype)).before args s = true) {ty : FieldType} (hty : newarray.typeOf atype = ty) (hK : va_K D cl tys s) (hP : va_P D cl ws H) (hD : va_D A ws) (hS : va_S A H0 H locs) (hA : ∀ q, H0.size ≤ q → A q)
    (t0 : Nat) {cT : ClassId} (ht : tys[t0]? = some (cT, ty)) (hprim : ∀ C, ty ≠ .object C)
    {n : Int32} {N' : Nat} {a0 : vp_A} (ha : ∀ cA : ClassId, vp_cell cA a0 = arrV cA N' (fun _ => defaultValue ty)) (hn : ¬ n < 0) (hN : n.toNatClampNeg = N') (hbytes : N' * componentBytes ty ≤ 536870912) (hcells : cells + 1 ≤ R.cells) (hslots : slots + N' ≤ R.slots) (hdg : decode cc pc = .ok (.newarray atype, 2))
    (kk : ∀ (q : Nat) (H1 : Heap), va_P D cl (ws ++ [(q, .inl (cT, a0))]) H1 → va_D A (ws ++ [(q, .inl (cT, a0))]) → va_S A H0 H1 locs →
      W p l e R s m args below meth c H1 locs (cells + 1) (slots + N') Q (F0 m (pc + 2) ls (.ref q :: rest))) : W p l e R s m args below meth c H locs cells slots Q (F0 m pc ls (.int n :: rest)) := by
  refine va_newa hexec hb harr hty hK hP hD hS hA ha hn hN hbytes hcells hslots hdg (fun q cA H1 hK1 hP1 hD1 hS1 => ?_)
  have e1 := (hK1.2 tys.length (cA, ty) (by simp)).2
  have e2 := (hK.2 t0 (cT, ty) ht).2
  have e3 : cA = cT := by
    cases ty <;> first | exact Option.some.inj (e1.symm.trans e2) | exact absurd rfl (hprim _)
  subst e3
  exact kk q H1 hP1 hD1 hS1
theorem nw_ref {p : Program} {l : Launch} {e : Env} {R : Room} {s : State} {m : MethodId} {args : Array Value} {below : List Frame} {meth : Method} {c : Code} {H : Heap} {locs : List Loc} {cells slots : Nat} {Q : State → Prop} {cc : ByteArray} {pc : Nat} {ls : Array Slot} {rest : List Value} {D : va_G} {cl : List vw_C} {tys : List (ClassId × FieldType)} {ws : va_W} {A : Nat → Prop} {H0 : Heap}
    (hexec : p.tables.exec = Jvm.exec) (hb : c.code = cc) {own C : String} {index : Nat} (hown : s.vm.findClass own = some m.cls) (hclink : (Cond.classLink own index C).before args s = true) (hover : va_AO C s) (hK : va_K D cl tys s) (hP : va_P D cl ws H) (hD : va_D A ws) (hS : va_S A H0 H locs) (hA : ∀ q, H0.size ≤ q → A q)
    (t0 : Nat) {cT : ClassId} (ht : tys[t0]? = some (cT, .object C))
    {n : Int32} {N' : Nat} (hn : ¬ n < 0) (hN : n.toNatClampNeg = N') (hbytes : N' * 4 ≤ 536870912) (hcells : cells + 1 ≤ R.cells) (hslots : slots + N' ≤ R.slots) (hdg : decode cc pc = .ok (.anewarray index, 3))
    (kk : ∀ (q : Nat) (H1 : Heap), va_P D cl (ws ++ [(q, .inl (cT, N', .inr (.inr (.inr (.inr (fun _ => none))))))]) H1 → va_D A (ws ++ [(q, .inl (cT, N', .inr (.inr (.inr (.inr (fun _ => none))))))]) → va_S A H0 H1 locs →
      W p l e R s m args below meth c H1 locs (cells + 1) (slots + N') Q (F0 m (pc + 3) ls (.ref q :: rest))) : W p l e R s m args below meth c H locs cells slots Q (F0 m pc ls (.int n :: rest)) := by
  refine va_newq hexec hb hown hclink hover hK hP hD hS hA hn hN hbytes hcells hslots hdg (fun q cA H1 hK1 hP1 hD1 hS1 => ?_)
  obtain ⟨kA, comp, -, -, -, e1⟩ := (hK1.2 tys.length (cA, .object C) (by simp)).2
  obtain ⟨kA2, comp2, -, -, -, e2⟩ := (hK.2 t0 (cT, .object C) ht).2
  have e3 : cA = cT := Option.some.inj (e1.symm.trans e2)
  subst e3
  exact kk q H1 hP1 hD1 hS1
/-- the heap as the constructors leave it -/
def SI : Hp := fun _ c j =>
  if c = 0 then (if j = 1 then 1 else 0)
  else if c = 1 then (if j = 1 then 3 else if j = 2 then 12 else 0)
  else if c = 7 then (if 0 ≤ j ∧ j < 6 then -5 else 0)
  else if c = 12 then (if 0 ≤ j ∧ j < 3 then -5 else 0)
  else if c = 23 then (if j = 1 then 1 else 0)
  else if c = 24 then 3 + j
  else 0
def bk (cyC cyI cyO : ClassId) (cs : List Nat) (ad : Nat → Nat) : va_W := cs.map (fun c => (ad c, cE cyC cyI cyO (fun _ c => ad c) SI 0 c))
end
section
theorem dkX0_0 : decode cX0_init 0 = .ok (.aload_n 0, 1) := by decide +kernel
theorem dkX0_1 : decode cX0_init 1 = .ok (.invokespecial 3, 3) := by decide +kernel
theorem dkX0_4 : decode cX0_init 4 = .ok (.aload_n 0, 1) := by decide +kernel
theorem dkX0_5 : decode cX0_init 5 = .ok (.bipush 114, 2) := by decide +kernel
theorem dkX0_7 : decode cX0_init 7 = .ok (.newarray .int, 2) := by decide +kernel
theorem dkX0_9 : decode cX0_init 9 = .ok (.putfield 9, 3) := by decide +kernel
theorem dkX0_12 : decode cX0_init 12 = .ok (.return_, 1) := by decide +kernel
set_option maxHeartbeats 8000000 in
set_option maxRecDepth 100000 in
theorem k_Disputes (l : Launch) (dC : Nat → ClassId) (dI : Nat → Nat → Nat) (cyC cyI cyO : ClassId) (rho : Nat → Nat → Nat) (Bd Ln : Nat) (xs : Int → Int) (h0 sz : Nat) : Met l yX0_init (.code yX0_init cX0_init 1 none :: GW) ({ frames := 1, cells := 1, slots := 114, locals := 12 }) (va_Pc [.ref h0] (fun U => U.heap.size = sz ∧ ((Bd ≤ h0 ∧ Bd ≤ sz) ∧ (∀ c, 36 ≤ c → c < 41 → ¬ Bd ≤ rho 0 c)) ∧ va_P (dC, dI) vwCl [(h0, .inr (0, [.int 0, .int 0, .null]))] U.heap ∧ St0 dC dI cyC cyI cyO rho (fun q => Bd ≤ q) Ln xs U)) (va_Qv (fun _ : Nat → Nat => True) (fun (ad : Nat → Nat) t => va_P (dC, dI) vwCl (bk cyC cyI cyO [21, 22] ad) t.heap ∧ va_D (va_A [(h0, .inr (0, [.int 0, .int 0, .null]))] sz) (bk cyC cyI cyO [21, 22] ad) ∧ ad 21 = h0) (va_A [(h0, .inr (0, [.int 0, .int 0, .null]))] sz)) 1 114 (va_A [(h0, .inr (0, [.int 0, .int 0, .null]))] sz) := by
  refine Met.ofW (cc := cX0_init) (maxL := 1) (ret := none) (by decide) rfl ?_
  intro p e s m args below meth c s₁ B hml hv
  obtain ⟨rfl, hsz, ⟨⟨hBh, hBs⟩, hro⟩, hP, hSt⟩ := hv
  have hx := B.exec
  have hb := B.bytes
  have hr := B.returns
  have hts0 := atoms_spec (ws := .code yX0_init cX0_init 1 none :: GW) B.pre
  have hts : ∀ w ∈ GW, w.before _ s = true := fun w hw => hts0 w (List.mem_cons_of_mem _ hw)
  have hown : s.vm.findClass RX0 = some m.cls := findClass_of_methodNamed B.named
  have hlocks := B.notSynchronized
  have hin : meth.name = "<init>" := (name_of_methodNamed B.named B.method).1
  have hK := hSt.1
  subst hsz
  have hD : va_D (va_A [(h0, .inr (0, [.int 0, .int 0, .null]))] s.heap.size) [(h0, .inr (0, [.int 0, .int 0, .null]))] := D_nd.mpr ⟨by simp, fun q hq => by
    rw [List.mem_singleton] at hq
    rw [hq]
    exact Or.inl ⟨0, _, rfl⟩⟩
  have hAB0 : ∀ q, va_A [(h0, .inr (0, [.int 0, .int 0, .null]))] s.heap.size q → Bd ≤ q := fun q h => by
    rcases h with ⟨k, e, h⟩ | h
    · have h1 := List.mem_of_getElem? h
      rw [List.mem_singleton] at h1
      cases h1
      exact hBh
    · exact Nat.le_trans hBs h
  have hA0 : ∀ q : Nat, s.heap.size ≤ q → va_A [(h0, .inr (0, [.int 0, .int 0, .null]))] s.heap.size q := fun q h => Or.inr h
  generalize hAe : va_A [(h0, .inr (0, [.int 0, .int 0, .null]))] s.heap.size = A at hD hAB0 hA0 ⊢
  have hAB := hAB0
  have hA := hA0
  have hSB : ∀ {H : Heap} {locs : List Loc}, va_S A s.heap H locs → va_S (fun q => Bd ≤ q) s.heap H locs := fun h => ⟨h.1, fun q h1 h2 => h.2.1 q h1 (fun z => h2 (hAB q z)), fun l hl => hAB _ (h.2.2 l hl)⟩
  have hS : va_S A s.heap s.heap [] := va_S.rf
  have hl := lv_entry ([.ref h0]) (n := 1) (Nat.le_of_ble_eq_true rfl)
  rw [lg_entry_eq]
  generalize (lg_sl ([.ref h0]) ++ List.replicate (1 - (lg_sl ([.ref h0])).length) Slot.unset).toArray = ls at hl ⊢
  have hl : lv_has ls 1 [(0, .ref h0)] := hl
  have hP : va_P (dC, dI) vwCl [(h0, .inr (0, [.int 0, .int 0, .null]))] s.heap := hP
  refine lv_aload_n hx hb dkX0_0 rfl (lv_at hl 0 rfl) ?_
  refine W.objInit hx hb hown (hts _ (GW_in (i := 127) (w := .methodLink RX0 3 objectInit) (by decide +kernel))) (hts _ (GW_in (i := 31) (w := .instanceMethod objectInit) (by decide +kernel))) (hts _ (GW_in (i := 32) (w := .code objectInit ⟨#[0xb1]⟩ 1 none) (by decide +kernel))) rfl (by rw [hml]; exact hl.1) rfl dkX0_1 (Nat.le_of_ble_eq_true rfl) (Nat.le_of_ble_eq_true rfl) ?_
  refine W.eq (g2 := F0 m 4 ls []) rfl ?_
  refine lv_aload_n hx hb dkX0_4 rfl (lv_at hl 0 rfl) ?_
  refine lv_bipush (v := 114) hx hb dkX0_5 (by decide) ?_
  refine nw_arr (atype := .int) (ty := .int) (a0 := (114, .inl (fun j : Nat => Int32.ofInt (SI 0 22 j)))) hx hb (hts _ (GW_in (i := 54) (w := .arrayClass .int) (by decide +kernel))) rfl hK hP hD hS hA 1 rfl (fun C h => by cases h) (fun cA => by first | rfl | exact congrArg (arrV cA 114) (funext fun j => rfl)) (by decide) (by decide) (by decide) (Nat.le_of_ble_eq_true rfl) (Nat.le_of_ble_eq_true rfl) dkX0_7 (fun q1 H hP hD hS => ?_)
  have hP : va_P (dC, dI) vwCl ([(h0, .inr (0, [.int 0, .int 0, .null])), (q1, .inl (cyI, 114, .inl (fun j : Nat => Int32.ofInt (SI 0 22 j))))]) H := hP
  have hD : va_D A ([(h0, .inr (0, [.int 0, .int 0, .null])), (q1, .inl (cyI, 114, .inl (fun j : Nat => Int32.ofInt (SI 0 22 j))))]) := hD
  refine va_putF (D := (dC, dI)) (ci := 0) (v := .ref q1) (ty := .array .int) (C := RX0) (T := TX0) (N := 3) hx hb hts (ob_in (c := 21) (by decide) rfl) tyX0 tyX0_ok nmX0 hown hK hP hD hS 0 rfl rfl 2 (by decide) (hts _ (GW_in (i := 132) (w := .fieldLink RX0 9 "TicketWindows$Disputes" "queue" "[I") (by decide +kernel))) (fun _ h9 => h9) rfl hin rfl (by decide +kernel) rfl rfl (Nat.le_of_ble_eq_true rfl) dkX0_9 (fun H locs hP hD hS => ?_)
  have hP : va_P (dC, dI) vwCl ([(h0, .inr (0, [.int 0, .int 0, .ref q1])), (q1, .inl (cyI, 114, .inl (fun j : Nat => Int32.ofInt (SI 0 22 j))))]) H := hP
  have hD : va_D A ([(h0, .inr (0, [.int 0, .int 0, .ref q1])), (q1, .inl (cyI, 114, .inl (fun j : Nat => Int32.ofInt (SI 0 22 j))))]) := hD
  have hP9 : va_P (dC, dI) vwCl (bk cyC cyI cyO [21, 22] (fun c => [h0, q1].getD (c - 21) 0)) H := hP
  have hD9 : va_D A (bk cyC cyI cyO [21, 22] (fun c => [h0, q1].getD (c - 21) 0)) := hD
  refine W.widen (k := 1) (n := 114) (Nat.le_of_ble_eq_true rfl) (Nat.le_of_ble_eq_true rfl) ?_
  exact W.vret hx hb hr (fun t ht hW => ⟨⟨(fun c => [h0, q1].getD (c - 21) 0), rfl, trivial, by rw [ht]; exact hP9, hAe ▸ hD9, rfl⟩, hAe ▸ hS.F ht⟩) (hAe ▸ hS.2.2) dkX0_12
theorem dkX1_0 : decode cX1_init 0 = .ok (.aload_n 0, 1) := by decide +kernel
theorem dkX1_1 : decode cX1_init 1 = .ok (.invokespecial 3, 3) := by decide +kernel
theorem dkX1_4 : decode cX1_init 4 = .ok (.aload_n 0, 1) := by decide +kernel
theorem dkX1_5 : decode cX1_init 5 = .ok (.bipush 6, 2) := by decide +kernel
theorem dkX1_7 : decode cX1_init 7 = .ok (.newarray .int, 2) := by decide +kernel
theorem dkX1_9 : decode cX1_init 9 = .ok (.putfield 9, 3) := by decide +kernel
theorem dkX1_12 : decode cX1_init 12 = .ok (.aload_n 0, 1) := by decide +kernel
theorem dkX1_13 : decode cX1_init 13 = .ok (.bipush 6, 2) := by decide +kernel
theorem dkX1_15 : decode cX1_init 15 = .ok (.newarray .int, 2) := by decide +kernel
theorem dkX1_17 : decode cX1_init 17 = .ok (.putfield 15, 3) := by decide +kernel
theorem dkX1_20 : decode cX1_init 20 = .ok (.iconst 0, 1) := by decide +kernel
theorem dkX1_21 : decode cX1_init 21 = .ok (.istore_n 1, 1) := by decide +kernel
theorem dkX1_22 : decode cX1_init 22 = .ok (.iload_n 1, 1) := by decide +kernel
theorem dkX1_23 : decode cX1_init 23 = .ok (.bipush 6, 2) := by decide +kernel
theorem dkX1_25 : decode cX1_init 25 = .ok (.if_icmp .ge 17, 3) := by decide +kernel
theorem dkX1_28 : decode cX1_init 28 = .ok (.aload_n 0, 1) := by decide +kernel
theorem dkX1_29 : decode cX1_init 29 = .ok (.getfield 15, 3) := by decide +kernel
theorem dkX1_32 : decode cX1_init 32 = .ok (.iload_n 1, 1) := by decide +kernel
theorem dkX1_33 : decode cX1_init 33 = .ok (.bipush (-5), 2) := by decide +kernel
theorem dkX1_35 : decode cX1_init 35 = .ok (.iastore, 1) := by decide +kernel
theorem dkX1_36 : decode cX1_init 36 = .ok (.iinc 1 1, 3) := by decide +kernel
theorem dkX1_39 : decode cX1_init 39 = .ok (.goto (-17), 3) := by decide +kernel
theorem dkX1_42 : decode cX1_init 42 = .ok (.aload_n 0, 1) := by decide +kernel
theorem dkX1_43 : decode cX1_init 43 = .ok (.bipush 18, 2) := by decide +kernel
theorem dkX1_45 : decode cX1_init 45 = .ok (.newarray .int, 2) := by decide +kernel
theorem dkX1_47 : decode cX1_init 47 = .ok (.putfield 18, 3) := by decide +kernel
theorem dkX1_50 : decode cX1_init 50 = .ok (.return_, 1) := by decide +kernel
set_option maxHeartbeats 8000000 in
set_option maxRecDepth 100000 in
theorem k_Draws (l : Launch) (dC : Nat → ClassId) (dI : Nat → Nat → Nat) (cyC cyI cyO : ClassId) (rho : Nat → Nat → Nat) (Bd Ln : Nat) (xs : Int → Int) (h0 sz : Nat) : Met l yX1_init (.code yX1_init cX1_init 2 none :: GW) ({ frames := 1, cells := 3, slots := 30, locals := 12 }) (va_Pc [.ref h0] (fun U => U.heap.size = sz ∧ ((Bd ≤ h0 ∧ Bd ≤ sz) ∧ (∀ c, 36 ≤ c → c < 41 → ¬ Bd ≤ rho 0 c)) ∧ va_P (dC, dI) vwCl [(h0, .inr (1, [.null, .null, .null]))] U.heap ∧ St0 dC dI cyC cyI cyO rho (fun q => Bd ≤ q) Ln xs U)) (va_Qv (fun _ : Nat → Nat => True) (fun (ad : Nat → Nat) t => va_P (dC, dI) vwCl (bk cyC cyI cyO [5, 6, 7, 8] ad) t.heap ∧ va_D (va_A [(h0, .inr (1, [.null, .null, .null]))] sz) (bk cyC cyI cyO [5, 6, 7, 8] ad) ∧ ad 5 = h0) (va_A [(h0, .inr (1, [.null, .null, .null]))] sz)) 3 30 (va_A [(h0, .inr (1, [.null, .null, .null]))] sz) := by
  refine Met.ofW (cc := cX1_init) (maxL := 2) (ret := none) (by decide) rfl ?_
  intro p e s m args below meth c s₁ B hml hv
  obtain ⟨rfl, hsz, ⟨⟨hBh, hBs⟩, hro⟩, hP, hSt⟩ := hv
  have hx := B.exec
  have hb := B.bytes
  have hr := B.returns
  have hts0 := atoms_spec (ws := .code yX1_init cX1_init 2 none :: GW) B.pre
  have hts : ∀ w ∈ GW, w.before _ s = true := fun w hw => hts0 w (List.mem_cons_of_mem _ hw)
  have hown : s.vm.findClass RX1 = some m.cls := findClass_of_methodNamed B.named
  have hlocks := B.notSynchronized
  have hin : meth.name = "<init>" := (name_of_methodNamed B.named B.method).1
  have hK := hSt.1
  subst hsz
  have hD : va_D (va_A [(h0, .inr (1, [.null, .null, .null]))] s.heap.size) [(h0, .inr (1, [.null, .null, .null]))] := D_nd.mpr ⟨by simp, fun q hq => by
    rw [List.mem_singleton] at hq
    rw [hq]
    exact Or.inl ⟨0, _, rfl⟩⟩
  have hAB0 : ∀ q, va_A [(h0, .inr (1, [.null, .null, .null]))] s.heap.size q → Bd ≤ q := fun q h => by
    rcases h with ⟨k, e, h⟩ | h
    · have h1 := List.mem_of_getElem? h
      rw [List.mem_singleton] at h1
      cases h1
      exact hBh
    · exact Nat.le_trans hBs h
  have hA0 : ∀ q : Nat, s.heap.size ≤ q → va_A [(h0, .inr (1, [.null, .null, .null]))] s.heap.size q := fun q h => Or.inr h
  generalize hAe : va_A [(h0, .inr (1, [.null, .null, .null]))] s.heap.size = A at hD hAB0 hA0 ⊢
  have hAB := hAB0
  have hA := hA0
  have hSB : ∀ {H : Heap} {locs : List Loc}, va_S A s.heap H locs → va_S (fun q => Bd ≤ q) s.heap H locs := fun h => ⟨h.1, fun q h1 h2 => h.2.1 q h1 (fun z => h2 (hAB q z)), fun l hl => hAB _ (h.2.2 l hl)⟩
  have hS : va_S A s.heap s.heap [] := va_S.rf
  have hl := lv_entry ([.ref h0]) (n := 2) (Nat.le_of_ble_eq_true rfl)
  rw [lg_entry_eq]
  generalize (lg_sl ([.ref h0]) ++ List.replicate (2 - (lg_sl ([.ref h0])).length) Slot.unset).toArray = ls at hl ⊢
  have hl : lv_has ls 2 [(0, .ref h0)] := hl
  have hP : va_P (dC, dI) vwCl [(h0, .inr (1, [.null, .null, .null]))] s.heap := hP
  refine lv_aload_n hx hb dkX1_0 rfl (lv_at hl 0 rfl) ?_
  refine W.objInit hx hb hown (hts _ (GW_in (i := 60) (w := .methodLink RX1 3 objectInit) (by decide +kernel))) (hts _ (GW_in (i := 31) (w := .instanceMethod objectInit) (by decide +kernel))) (hts _ (GW_in (i := 32) (w := .code objectInit ⟨#[0xb1]⟩ 1 none) (by decide +kernel))) rfl (by rw [hml]; exact hl.1) rfl dkX1_1 (Nat.le_of_ble_eq_true rfl) (Nat.le_of_ble_eq_true rfl) ?_
  refine W.eq (g2 := F0 m 4 ls []) rfl ?_
  refine lv_aload_n hx hb dkX1_4 rfl (lv_at hl 0 rfl) ?_
  refine lv_bipush (v := 6) hx hb dkX1_5 (by decide) ?_
  refine nw_arr (atype := .int) (ty := .int) (a0 := (6, .inl (fun j : Nat => Int32.ofInt (SI 0 6 j)))) hx hb (hts _ (GW_in (i := 54) (w := .arrayClass .int) (by decide +kernel))) rfl hK hP hD hS hA 1 rfl (fun C h => by cases h) (fun cA => by first | rfl | exact congrArg (arrV cA 6) (funext fun j => rfl)) (by decide) (by decide) (by decide) (Nat.le_of_ble_eq_true rfl) (Nat.le_of_ble_eq_true rfl) dkX1_7 (fun q1 H hP hD hS => ?_)
  have hP : va_P (dC, dI) vwCl ([(h0, .inr (1, [.null, .null, .null])), (q1, .inl (cyI, 6, .inl (fun j : Nat => Int32.ofInt (SI 0 6 j))))]) H := hP
  have hD : va_D A ([(h0, .inr (1, [.null, .null, .null])), (q1, .inl (cyI, 6, .inl (fun j : Nat => Int32.ofInt (SI 0 6 j))))]) := hD
  refine va_putF (D := (dC, dI)) (ci := 1) (v := .ref q1) (ty := .array .int) (C := RX1) (T := TX1) (N := 3) hx hb hts (ob_in (c := 5) (by decide) rfl) tyX1 tyX1_ok nmX1 hown hK hP hD hS 0 rfl rfl 0 (by decide) (hts _ (GW_in (i := 61) (w := .fieldLink RX1 9 "TicketWindows$Draws" "sold" "[I") (by decide +kernel))) (fun _ h9 => h9) rfl hin rfl (by decide +kernel) rfl rfl (Nat.le_of_ble_eq_true rfl) dkX1_9 (fun H locs hP hD hS => ?_)
  have hP : va_P (dC, dI) vwCl ([(h0, .inr (1, [.ref q1, .null, .null])), (q1, .inl (cyI, 6, .inl (fun j : Nat => Int32.ofInt (SI 0 6 j))))]) H := hP
  have hD : va_D A ([(h0, .inr (1, [.ref q1, .null, .null])), (q1, .inl (cyI, 6, .inl (fun j : Nat => Int32.ofInt (SI 0 6 j))))]) := hD
  refine lv_aload_n hx hb dkX1_12 rfl (lv_at hl 0 rfl) ?_
  refine lv_bipush (v := 6) hx hb dkX1_13 (by decide) ?_
  refine nw_arr (atype := .int) (ty := .int) (a0 := (6, .inl (fun _ : Nat => (0 : Int32)))) hx hb (hts _ (GW_in (i := 54) (w := .arrayClass .int) (by decide +kernel))) rfl hK hP hD hS hA 1 rfl (fun C h => by cases h) (fun cA => by first | rfl | exact congrArg (arrV cA 6) (funext fun j => rfl)) (by decide) (by decide) (by decide) (Nat.le_of_ble_eq_true rfl) (Nat.le_of_ble_eq_true rfl) dkX1_15 (fun q2 H hP hD hS => ?_)
  have hP : va_P (dC, dI) vwCl ([(h0, .inr (1, [.ref q1, .null, .null])), (q1, .inl (cyI, 6, .inl (fun j : Nat => Int32.ofInt (SI 0 6 j)))), (q2, .inl (cyI, 6, .inl (fun _ : Nat => (0 : Int32))))]) H := hP
  have hD : va_D A ([(h0, .inr (1, [.ref q1, .null, .null])), (q1, .inl (cyI, 6, .inl (fun j : Nat => Int32.ofInt (SI 0 6 j)))), (q2, .inl (cyI, 6, .inl (fun _ : Nat => (0 : Int32))))]) := hD
  refine va_putF (D := (dC, dI)) (ci := 1) (v := .ref q2) (ty := .array .int) (C := RX1) (T := TX1) (N := 3) hx hb hts (ob_in (c := 5) (by decide) rfl) tyX1 tyX1_ok nmX1 hown hK hP hD hS 0 rfl rfl 1 (by decide) (hts _ (GW_in (i := 63) (w := .fieldLink RX1 15 "TicketWindows$Draws" "winning" "[I") (by decide +kernel))) (fun _ h9 => h9) rfl hin rfl (by decide +kernel) rfl rfl (Nat.le_of_ble_eq_true rfl) dkX1_17 (fun H locs hP hD hS => ?_)
  have hP : va_P (dC, dI) vwCl ([(h0, .inr (1, [.ref q1, .ref q2, .null])), (q1, .inl (cyI, 6, .inl (fun j : Nat => Int32.ofInt (SI 0 6 j)))), (q2, .inl (cyI, 6, .inl (fun _ : Nat => (0 : Int32))))]) H := hP
  have hD : va_D A ([(h0, .inr (1, [.ref q1, .ref q2, .null])), (q1, .inl (cyI, 6, .inl (fun j : Nat => Int32.ofInt (SI 0 6 j)))), (q2, .inl (cyI, 6, .inl (fun _ : Nat => (0 : Int32))))]) := hD
  refine lv_iconst (v := 0) hx hb dkX1_20 (by decide) ?_
  refine lv_istore_n (lv' := [(1, .int 0), (0, .ref h0)]) hx hb dkX1_21 rfl hl (by decide) rfl (fun ls hl => ?_)
  refine lv_iload_n hx hb dkX1_22 rfl (lv_at hl 0 rfl) ?_
  refine lv_bipush (v := 6) hx hb dkX1_23 (by decide) ?_
  refine lv_icmp_ge (tgt := 42) hx hb dkX1_25 (by decide) (fun q => absurd q (by decide)) (fun _ => ?_)
  refine lv_aload_n hx hb dkX1_28 rfl (lv_at hl 1 rfl) ?_
  refine va_get (D := (dC, dI)) (ci := 1) (v := .ref q2) (C := RX1) (T := TX1) (N := 3) hx hb hts (ob_in (c := 5) (by decide) rfl) hown hK hP 0 rfl rfl 1 (by decide) (hts _ (GW_in (i := 63) (w := .fieldLink RX1 15 "TicketWindows$Draws" "winning" "[I") (by decide +kernel))) (fun _ h9 => h9) rfl dkX1_29 ?_
  refine lv_iload_n hx hb dkX1_32 rfl (lv_at hl 0 rfl) ?_
  refine lv_bipush (v := -5) hx hb dkX1_33 (by decide) ?_
  refine va_iast hx hb hK hP hD hS 2 1 rfl rfl (by unfold vp_in; decide) dkX1_35 (fun H locs hP hD hS => ?_)
  have hP : va_P (dC, dI) vwCl ([(h0, .inr (1, [.ref q1, .ref q2, .null])), (q1, .inl (cyI, 6, .inl (fun j : Nat => Int32.ofInt (SI 0 6 j)))), (q2, .inl (cyI, 6, .inl (upd (fun _ : Nat => (0 : Int32)) 0 (-5))))]) H := hP
  have hD : va_D A ([(h0, .inr (1, [.ref q1, .ref q2, .null])), (q1, .inl (cyI, 6, .inl (fun j : Nat => Int32.ofInt (SI 0 6 j)))), (q2, .inl (cyI, 6, .inl (upd (fun _ : Nat => (0 : Int32)) 0 (-5))))]) := hD
  refine lv_iinc (v := 1) (lv' := [(1, .int 1), (0, .ref h0)]) hx hb dkX1_36 hl (k := 0) rfl (by decide) (by decide) rfl (fun ls hl => ?_)
  refine lv_goto (tgt := 22) hx hb dkX1_39 (by decide) ?_
  refine lv_iload_n hx hb dkX1_22 rfl (lv_at hl 0 rfl) ?_
  refine lv_bipush (v := 6) hx hb dkX1_23 (by decide) ?_
  refine lv_icmp_ge (tgt := 42) hx hb dkX1_25 (by decide) (fun q => absurd q (by decide)) (fun _ => ?_)
  refine lv_aload_n hx hb dkX1_28 rfl (lv_at hl 1 rfl) ?_
  refine va_get (D := (dC, dI)) (ci := 1) (v := .ref q2) (C := RX1) (T := TX1) (N := 3) hx hb hts (ob_in (c := 5) (by decide) rfl) hown hK hP 0 rfl rfl 1 (by decide) (hts _ (GW_in (i := 63) (w := .fieldLink RX1 15 "TicketWindows$Draws" "winning" "[I") (by decide +kernel))) (fun _ h9 => h9) rfl dkX1_29 ?_
  refine lv_iload_n hx hb dkX1_32 rfl (lv_at hl 0 rfl) ?_
  refine lv_bipush (v := -5) hx hb dkX1_33 (by decide) ?_
  refine va_iast hx hb hK hP hD hS 2 1 rfl rfl (by unfold vp_in; decide) dkX1_35 (fun H locs hP hD hS => ?_)
  have hP : va_P (dC, dI) vwCl ([(h0, .inr (1, [.ref q1, .ref q2, .null])), (q1, .inl (cyI, 6, .inl (fun j : Nat => Int32.ofInt (SI 0 6 j)))), (q2, .inl (cyI, 6, .inl (upd (upd (fun _ : Nat => (0 : Int32)) 0 (-5)) 1 (-5))))]) H := hP
  have hD : va_D A ([(h0, .inr (1, [.ref q1, .ref q2, .null])), (q1, .inl (cyI, 6, .inl (fun j : Nat => Int32.ofInt (SI 0 6 j)))), (q2, .inl (cyI, 6, .inl (upd (upd (fun _ : Nat => (0 : Int32)) 0 (-5)) 1 (-5))))]) := hD
  refine lv_iinc (v := 2) (lv' := [(1, .int 2), (0, .ref h0)]) hx hb dkX1_36 hl (k := 0) rfl (by decide) (by decide) rfl (fun ls hl => ?_)
  refine lv_goto (tgt := 22) hx hb dkX1_39 (by decide) ?_
  refine lv_iload_n hx hb dkX1_22 rfl (lv_at hl 0 rfl) ?_
  refine lv_bipush (v := 6) hx hb dkX1_23 (by decide) ?_
  refine lv_icmp_ge (tgt := 42) hx hb dkX1_25 (by decide) (fun q => absurd q (by decide)) (fun _ => ?_)
  refine lv_aload_n hx hb dkX1_28 rfl (lv_at hl 1 rfl) ?_
  refine va_get (D := (dC, dI)) (ci := 1) (v := .ref q2) (C := RX1) (T := TX1) (N := 3) hx hb hts (ob_in (c := 5) (by decide) rfl) hown hK hP 0 rfl rfl 1 (by decide) (hts _ (GW_in (i := 63) (w := .fieldLink RX1 15 "TicketWindows$Draws" "winning" "[I") (by decide +kernel))) (fun _ h9 => h9) rfl dkX1_29 ?_
  refine lv_iload_n hx hb dkX1_32 rfl (lv_at hl 0 rfl) ?_
  refine lv_bipush (v := -5) hx hb dkX1_33 (by decide) ?_
  refine va_iast hx hb hK hP hD hS 2 1 rfl rfl (by unfold vp_in; decide) dkX1_35 (fun H locs hP hD hS => ?_)
  have hP : va_P (dC, dI) vwCl ([(h0, .inr (1, [.ref q1, .ref q2, .null])), (q1, .inl (cyI, 6, .inl (fun j : Nat => Int32.ofInt (SI 0 6 j)))), (q2, .inl (cyI, 6, .inl (upd (upd (upd (fun _ : Nat => (0 : Int32)) 0 (-5)) 1 (-5)) 2 (-5))))]) H := hP
  have hD : va_D A ([(h0, .inr (1, [.ref q1, .ref q2, .null])), (q1, .inl (cyI, 6, .inl (fun j : Nat => Int32.ofInt (SI 0 6 j)))), (q2, .inl (cyI, 6, .inl (upd (upd (upd (fun _ : Nat => (0 : Int32)) 0 (-5)) 1 (-5)) 2 (-5))))]) := hD
  refine lv_iinc (v := 3) (lv' := [(1, .int 3), (0, .ref h0)]) hx hb dkX1_36 hl (k := 0) rfl (by decide) (by decide) rfl (fun ls hl => ?_)
  refine lv_goto (tgt := 22) hx hb dkX1_39 (by decide) ?_
  refine lv_iload_n hx hb dkX1_22 rfl (lv_at hl 0 rfl) ?_
  refine lv_bipush (v := 6) hx hb dkX1_23 (by decide) ?_
  refine lv_icmp_ge (tgt := 42) hx hb dkX1_25 (by decide) (fun q => absurd q (by decide)) (fun _ => ?_)
  refine lv_aload_n hx hb dkX1_28 rfl (lv_at hl 1 rfl) ?_
  refine va_get (D := (dC, dI)) (ci := 1) (v := .ref q2) (C := RX1) (T := TX1) (N := 3) hx hb hts (ob_in (c := 5) (by decide) rfl) hown hK hP 0 rfl rfl 1 (by decide) (hts _ (GW_in (i := 63) (w := .fieldLink RX1 15 "TicketWindows$Draws" "winning" "[I") (by decide +kernel))) (fun _ h9 => h9) rfl dkX1_29 ?_
  refine lv_iload_n hx hb dkX1_32 rfl (lv_at hl 0 rfl) ?_
  refine lv_bipush (v := -5) hx hb dkX1_33 (by decide) ?_
  refine va_iast hx hb hK hP hD hS 2 1 rfl rfl (by unfold vp_in; decide) dkX1_35 (fun H locs hP hD hS => ?_)
  have hP : va_P (dC, dI) vwCl ([(h0, .inr (1, [.ref q1, .ref q2, .null])), (q1, .inl (cyI, 6, .inl (fun j : Nat => Int32.ofInt (SI 0 6 j)))), (q2, .inl (cyI, 6, .inl (upd (upd (upd (upd (fun _ : Nat => (0 : Int32)) 0 (-5)) 1 (-5)) 2 (-5)) 3 (-5))))]) H := hP
  have hD : va_D A ([(h0, .inr (1, [.ref q1, .ref q2, .null])), (q1, .inl (cyI, 6, .inl (fun j : Nat => Int32.ofInt (SI 0 6 j)))), (q2, .inl (cyI, 6, .inl (upd (upd (upd (upd (fun _ : Nat => (0 : Int32)) 0 (-5)) 1 (-5)) 2 (-5)) 3 (-5))))]) := hD
  refine lv_iinc (v := 4) (lv' := [(1, .int 4), (0, .ref h0)]) hx hb dkX1_36 hl (k := 0) rfl (by decide) (by decide) rfl (fun ls hl => ?_)
  refine lv_goto (tgt := 22) hx hb dkX1_39 (by decide) ?_
  refine lv_iload_n hx hb dkX1_22 rfl (lv_at hl 0 rfl) ?_
  refine lv_bipush (v := 6) hx hb dkX1_23 (by decide) ?_
  refine lv_icmp_ge (tgt := 42) hx hb dkX1_25 (by decide) (fun q => absurd q (by decide)) (fun _ => ?_)
  refine lv_aload_n hx hb dkX1_28 rfl (lv_at hl 1 rfl) ?_
  refine va_get (D := (dC, dI)) (ci := 1) (v := .ref q2) (C := RX1) (T := TX1) (N := 3) hx hb hts (ob_in (c := 5) (by decide) rfl) hown hK hP 0 rfl rfl 1 (by decide) (hts _ (GW_in (i := 63) (w := .fieldLink RX1 15 "TicketWindows$Draws" "winning" "[I") (by decide +kernel))) (fun _ h9 => h9) rfl dkX1_29 ?_
  refine lv_iload_n hx hb dkX1_32 rfl (lv_at hl 0 rfl) ?_
  refine lv_bipush (v := -5) hx hb dkX1_33 (by decide) ?_
  refine va_iast hx hb hK hP hD hS 2 1 rfl rfl (by unfold vp_in; decide) dkX1_35 (fun H locs hP hD hS => ?_)
  have hP : va_P (dC, dI) vwCl ([(h0, .inr (1, [.ref q1, .ref q2, .null])), (q1, .inl (cyI, 6, .inl (fun j : Nat => Int32.ofInt (SI 0 6 j)))), (q2, .inl (cyI, 6, .inl (upd (upd (upd (upd (upd (fun _ : Nat => (0 : Int32)) 0 (-5)) 1 (-5)) 2 (-5)) 3 (-5)) 4 (-5))))]) H := hP
  have hD : va_D A ([(h0, .inr (1, [.ref q1, .ref q2, .null])), (q1, .inl (cyI, 6, .inl (fun j : Nat => Int32.ofInt (SI 0 6 j)))), (q2, .inl (cyI, 6, .inl (upd (upd (upd (upd (upd (fun _ : Nat => (0 : Int32)) 0 (-5)) 1 (-5)) 2 (-5)) 3 (-5)) 4 (-5))))]) := hD
  refine lv_iinc (v := 5) (lv' := [(1, .int 5), (0, .ref h0)]) hx hb dkX1_36 hl (k := 0) rfl (by decide) (by decide) rfl (fun ls hl => ?_)
  refine lv_goto (tgt := 22) hx hb dkX1_39 (by decide) ?_
  refine lv_iload_n hx hb dkX1_22 rfl (lv_at hl 0 rfl) ?_
  refine lv_bipush (v := 6) hx hb dkX1_23 (by decide) ?_
  refine lv_icmp_ge (tgt := 42) hx hb dkX1_25 (by decide) (fun q => absurd q (by decide)) (fun _ => ?_)
  refine lv_aload_n hx hb dkX1_28 rfl (lv_at hl 1 rfl) ?_
  refine va_get (D := (dC, dI)) (ci := 1) (v := .ref q2) (C := RX1) (T := TX1) (N := 3) hx hb hts (ob_in (c := 5) (by decide) rfl) hown hK hP 0 rfl rfl 1 (by decide) (hts _ (GW_in (i := 63) (w := .fieldLink RX1 15 "TicketWindows$Draws" "winning" "[I") (by decide +kernel))) (fun _ h9 => h9) rfl dkX1_29 ?_
  refine lv_iload_n hx hb dkX1_32 rfl (lv_at hl 0 rfl) ?_
  refine lv_bipush (v := -5) hx hb dkX1_33 (by decide) ?_
  refine va_iast hx hb hK hP hD hS 2 1 rfl rfl (by unfold vp_in; decide) dkX1_35 (fun H locs hP hD hS => ?_)
  have hP : va_P (dC, dI) vwCl ([(h0, .inr (1, [.ref q1, .ref q2, .null])), (q1, .inl (cyI, 6, .inl (fun j : Nat => Int32.ofInt (SI 0 6 j)))), (q2, .inl (cyI, 6, .inl (upd (upd (upd (upd (upd (upd (fun _ : Nat => (0 : Int32)) 0 (-5)) 1 (-5)) 2 (-5)) 3 (-5)) 4 (-5)) 5 (-5))))]) H := hP
  have hD : va_D A ([(h0, .inr (1, [.ref q1, .ref q2, .null])), (q1, .inl (cyI, 6, .inl (fun j : Nat => Int32.ofInt (SI 0 6 j)))), (q2, .inl (cyI, 6, .inl (upd (upd (upd (upd (upd (upd (fun _ : Nat => (0 : Int32)) 0 (-5)) 1 (-5)) 2 (-5)) 3 (-5)) 4 (-5)) 5 (-5))))]) := hD
  refine lv_iinc (v := 6) (lv' := [(1, .int 6), (0, .ref h0)]) hx hb dkX1_36 hl (k := 0) rfl (by decide) (by decide) rfl (fun ls hl => ?_)
  refine lv_goto (tgt := 22) hx hb dkX1_39 (by decide) ?_
  refine lv_iload_n hx hb dkX1_22 rfl (lv_at hl 0 rfl) ?_
  refine lv_bipush (v := 6) hx hb dkX1_23 (by decide) ?_
  refine lv_icmp_ge (tgt := 42) hx hb dkX1_25 (by decide) (fun _ => ?_) (fun q => absurd (by decide) q)
  refine lv_aload_n hx hb dkX1_42 rfl (lv_at hl 1 rfl) ?_
  refine lv_bipush (v := 18) hx hb dkX1_43 (by decide) ?_
  refine nw_arr (atype := .int) (ty := .int) (a0 := (18, .inl (fun j : Nat => Int32.ofInt (SI 0 8 j)))) hx hb (hts _ (GW_in (i := 54) (w := .arrayClass .int) (by decide +kernel))) rfl hK hP hD hS hA 1 rfl (fun C h => by cases h) (fun cA => by first | rfl | exact congrArg (arrV cA 18) (funext fun j => rfl)) (by decide) (by decide) (by decide) (Nat.le_of_ble_eq_true rfl) (Nat.le_of_ble_eq_true rfl) dkX1_45 (fun q3 H hP hD hS => ?_)
  have hP : va_P (dC, dI) vwCl ([(h0, .inr (1, [.ref q1, .ref q2, .null])), (q1, .inl (cyI, 6, .inl (fun j : Nat => Int32.ofInt (SI 0 6 j)))), (q2, .inl (cyI, 6, .inl (upd (upd (upd (upd (upd (upd (fun _ : Nat => (0 : Int32)) 0 (-5)) 1 (-5)) 2 (-5)) 3 (-5)) 4 (-5)) 5 (-5)))), (q3, .inl (cyI, 18, .inl (fun j : Nat => Int32.ofInt (SI 0 8 j))))]) H := hP
  have hD : va_D A ([(h0, .inr (1, [.ref q1, .ref q2, .null])), (q1, .inl (cyI, 6, .inl (fun j : Nat => Int32.ofInt (SI 0 6 j)))), (q2, .inl (cyI, 6, .inl (upd (upd (upd (upd (upd (upd (fun _ : Nat => (0 : Int32)) 0 (-5)) 1 (-5)) 2 (-5)) 3 (-5)) 4 (-5)) 5 (-5)))), (q3, .inl (cyI, 18, .inl (fun j : Nat => Int32.ofInt (SI 0 8 j))))]) := hD
  refine va_putF (D := (dC, dI)) (ci := 1) (v := .ref q3) (ty := .array .int) (C := RX1) (T := TX1) (N := 3) hx hb hts (ob_in (c := 5) (by decide) rfl) tyX1 tyX1_ok nmX1 hown hK hP hD hS 0 rfl rfl 2 (by decide) (hts _ (GW_in (i := 65) (w := .fieldLink RX1 18 "TicketWindows$Draws" "winners" "[I") (by decide +kernel))) (fun _ h9 => h9) rfl hin rfl (by decide +kernel) rfl rfl (Nat.le_of_ble_eq_true rfl) dkX1_47 (fun H locs hP hD hS => ?_)
  have hP : va_P (dC, dI) vwCl ([(h0, .inr (1, [.ref q1, .ref q2, .ref q3])), (q1, .inl (cyI, 6, .inl (fun j : Nat => Int32.ofInt (SI 0 6 j)))), (q2, .inl (cyI, 6, .inl (upd (upd (upd (upd (upd (upd (fun _ : Nat => (0 : Int32)) 0 (-5)) 1 (-5)) 2 (-5)) 3 (-5)) 4 (-5)) 5 (-5)))), (q3, .inl (cyI, 18, .inl (fun j : Nat => Int32.ofInt (SI 0 8 j))))]) H := hP
  have hD : va_D A ([(h0, .inr (1, [.ref q1, .ref q2, .ref q3])), (q1, .inl (cyI, 6, .inl (fun j : Nat => Int32.ofInt (SI 0 6 j)))), (q2, .inl (cyI, 6, .inl (upd (upd (upd (upd (upd (upd (fun _ : Nat => (0 : Int32)) 0 (-5)) 1 (-5)) 2 (-5)) 3 (-5)) 4 (-5)) 5 (-5)))), (q3, .inl (cyI, 18, .inl (fun j : Nat => Int32.ofInt (SI 0 8 j))))]) := hD
  have hf7 : (upd (upd (upd (upd (upd (upd (fun _ : Nat => (0 : Int32)) 0 (-5)) 1 (-5)) 2 (-5)) 3 (-5)) 4 (-5)) 5 (-5)) = (fun j : Nat => Int32.ofInt (SI 0 7 j)) := by
    funext j
    rcases Nat.lt_or_ge j 6 with h | h
    · rcases (show j = 0 ∨ j = 1 ∨ j = 2 ∨ j = 3 ∨ j = 4 ∨ j = 5 by omega) with rfl | rfl | rfl | rfl | rfl | rfl <;> rfl
    · unfold upd
      rw [if_neg (by omega), if_neg (by omega), if_neg (by omega), if_neg (by omega), if_neg (by omega), if_neg (by omega)]
      have e : SI 0 7 (j : Int) = 0 := by
        simp only [SI, Nat.reduceEqDiff, ↓reduceIte]
        rw [if_neg (by omega)]
      rw [e]
      rfl
  rw [hf7] at hP hD
  have hP9 : va_P (dC, dI) vwCl (bk cyC cyI cyO [5, 6, 7, 8] (fun c => [h0, q1, q2, q3].getD (c - 5) 0)) H := hP
  have hD9 : va_D A (bk cyC cyI cyO [5, 6, 7, 8] (fun c => [h0, q1, q2, q3].getD (c - 5) 0)) := hD
  refine W.widen (k := 3) (n := 30) (Nat.le_of_ble_eq_true rfl) (Nat.le_of_ble_eq_true rfl) ?_
  exact W.vret hx hb hr (fun t ht hW => ⟨⟨(fun c => [h0, q1, q2, q3].getD (c - 5) 0), rfl, trivial, by rw [ht]; exact hP9, hAe ▸ hD9, rfl⟩, hAe ▸ hS.F ht⟩) (hAe ▸ hS.2.2) dkX1_50
theorem dkX2_0 : decode cX2_init 0 = .ok (.aload_n 0, 1) := by decide +kernel
theorem dkX2_1 : decode cX2_init 1 = .ok (.invokespecial 3, 3) := by decide +kernel
theorem dkX2_4 : decode cX2_init 4 = .ok (.aload_n 0, 1) := by decide +kernel
theorem dkX2_5 : decode cX2_init 5 = .ok (.sipush 150, 3) := by decide +kernel
theorem dkX2_8 : decode cX2_init 8 = .ok (.newarray .int, 2) := by decide +kernel
theorem dkX2_10 : decode cX2_init 10 = .ok (.putfield 9, 3) := by decide +kernel
theorem dkX2_13 : decode cX2_init 13 = .ok (.aload_n 0, 1) := by decide +kernel
theorem dkX2_14 : decode cX2_init 14 = .ok (.sipush 150, 3) := by decide +kernel
theorem dkX2_17 : decode cX2_init 17 = .ok (.newarray .int, 2) := by decide +kernel
theorem dkX2_19 : decode cX2_init 19 = .ok (.putfield 15, 3) := by decide +kernel
theorem dkX2_22 : decode cX2_init 22 = .ok (.return_, 1) := by decide +kernel
set_option maxHeartbeats 8000000 in
set_option maxRecDepth 100000 in
theorem k_Mail (l : Launch) (dC : Nat → ClassId) (dI : Nat → Nat → Nat) (cyC cyI cyO : ClassId) (rho : Nat → Nat → Nat) (Bd Ln : Nat) (xs : Int → Int) (h0 sz : Nat) : Met l yX2_init (.code yX2_init cX2_init 1 none :: GW) ({ frames := 1, cells := 2, slots := 300, locals := 12 }) (va_Pc [.ref h0] (fun U => U.heap.size = sz ∧ ((Bd ≤ h0 ∧ Bd ≤ sz) ∧ (∀ c, 36 ≤ c → c < 41 → ¬ Bd ≤ rho 0 c)) ∧ va_P (dC, dI) vwCl [(h0, .inr (2, [.int 0, .null, .null]))] U.heap ∧ St0 dC dI cyC cyI cyO rho (fun q => Bd ≤ q) Ln xs U)) (va_Qv (fun _ : Nat → Nat => True) (fun (ad : Nat → Nat) t => va_P (dC, dI) vwCl (bk cyC cyI cyO [18, 19, 20] ad) t.heap ∧ va_D (va_A [(h0, .inr (2, [.int 0, .null, .null]))] sz) (bk cyC cyI cyO [18, 19, 20] ad) ∧ ad 18 = h0) (va_A [(h0, .inr (2, [.int 0, .null, .null]))] sz)) 2 300 (va_A [(h0, .inr (2, [.int 0, .null, .null]))] sz) := by
  refine Met.ofW (cc := cX2_init) (maxL := 1) (ret := none) (by decide) rfl ?_
  intro p e s m args below meth c s₁ B hml hv
  obtain ⟨rfl, hsz, ⟨⟨hBh, hBs⟩, hro⟩, hP, hSt⟩ := hv
  have hx := B.exec
  have hb := B.bytes
  have hr := B.returns
  have hts0 := atoms_spec (ws := .code yX2_init cX2_init 1 none :: GW) B.pre
  have hts : ∀ w ∈ GW, w.before _ s = true := fun w hw => hts0 w (List.mem_cons_of_mem _ hw)
  have hown : s.vm.findClass RX2 = some m.cls := findClass_of_methodNamed B.named
  have hlocks := B.notSynchronized
  have hin : meth.name = "<init>" := (name_of_methodNamed B.named B.method).1
  have hK := hSt.1
  subst hsz
  have hD : va_D (va_A [(h0, .inr (2, [.int 0, .null, .null]))] s.heap.size) [(h0, .inr (2, [.int 0, .null, .null]))] := D_nd.mpr ⟨by simp, fun q hq => by
    rw [List.mem_singleton] at hq
    rw [hq]
    exact Or.inl ⟨0, _, rfl⟩⟩
  have hAB0 : ∀ q, va_A [(h0, .inr (2, [.int 0, .null, .null]))] s.heap.size q → Bd ≤ q := fun q h => by
    rcases h with ⟨k, e, h⟩ | h
    · have h1 := List.mem_of_getElem? h
      rw [List.mem_singleton] at h1
      cases h1
      exact hBh
    · exact Nat.le_trans hBs h
  have hA0 : ∀ q : Nat, s.heap.size ≤ q → va_A [(h0, .inr (2, [.int 0, .null, .null]))] s.heap.size q := fun q h => Or.inr h
  generalize hAe : va_A [(h0, .inr (2, [.int 0, .null, .null]))] s.heap.size = A at hD hAB0 hA0 ⊢
  have hAB := hAB0
  have hA := hA0
  have hSB : ∀ {H : Heap} {locs : List Loc}, va_S A s.heap H locs → va_S (fun q => Bd ≤ q) s.heap H locs := fun h => ⟨h.1, fun q h1 h2 => h.2.1 q h1 (fun z => h2 (hAB q z)), fun l hl => hAB _ (h.2.2 l hl)⟩
  have hS : va_S A s.heap s.heap [] := va_S.rf
  have hl := lv_entry ([.ref h0]) (n := 1) (Nat.le_of_ble_eq_true rfl)
  rw [lg_entry_eq]
  generalize (lg_sl ([.ref h0]) ++ List.replicate (1 - (lg_sl ([.ref h0])).length) Slot.unset).toArray = ls at hl ⊢
  have hl : lv_has ls 1 [(0, .ref h0)] := hl
  have hP : va_P (dC, dI) vwCl [(h0, .inr (2, [.int 0, .null, .null]))] s.heap := hP
  refine lv_aload_n hx hb dkX2_0 rfl (lv_at hl 0 rfl) ?_
  refine W.objInit hx hb hown (hts _ (GW_in (i := 110) (w := .methodLink RX2 3 objectInit) (by decide +kernel))) (hts _ (GW_in (i := 31) (w := .instanceMethod objectInit) (by decide +kernel))) (hts _ (GW_in (i := 32) (w := .code objectInit ⟨#[0xb1]⟩ 1 none) (by decide +kernel))) rfl (by rw [hml]; exact hl.1) rfl dkX2_1 (Nat.le_of_ble_eq_true rfl) (Nat.le_of_ble_eq_true rfl) ?_
  refine W.eq (g2 := F0 m 4 ls []) rfl ?_
  refine lv_aload_n hx hb dkX2_4 rfl (lv_at hl 0 rfl) ?_
  refine lv_sipush (v := 150) hx hb dkX2_5 (by decide) ?_
  refine nw_arr (atype := .int) (ty := .int) (a0 := (150, .inl (fun j : Nat => Int32.ofInt (SI 0 19 j)))) hx hb (hts _ (GW_in (i := 54) (w := .arrayClass .int) (by decide +kernel))) rfl hK hP hD hS hA 1 rfl (fun C h => by cases h) (fun cA => by first | rfl | exact congrArg (arrV cA 150) (funext fun j => rfl)) (by decide) (by decide) (by decide) (Nat.le_of_ble_eq_true rfl) (Nat.le_of_ble_eq_true rfl) dkX2_8 (fun q1 H hP hD hS => ?_)
  have hP : va_P (dC, dI) vwCl ([(h0, .inr (2, [.int 0, .null, .null])), (q1, .inl (cyI, 150, .inl (fun j : Nat => Int32.ofInt (SI 0 19 j))))]) H := hP
  have hD : va_D A ([(h0, .inr (2, [.int 0, .null, .null])), (q1, .inl (cyI, 150, .inl (fun j : Nat => Int32.ofInt (SI 0 19 j))))]) := hD
  refine va_putF (D := (dC, dI)) (ci := 2) (v := .ref q1) (ty := .array .int) (C := RX2) (T := TX2) (N := 3) hx hb hts (ob_in (c := 18) (by decide) rfl) tyX2 tyX2_ok nmX2 hown hK hP hD hS 0 rfl rfl 1 (by decide) (hts _ (GW_in (i := 113) (w := .fieldLink RX2 9 "TicketWindows$Mail" "due" "[I") (by decide +kernel))) (fun _ h9 => h9) rfl hin rfl (by decide +kernel) rfl rfl (Nat.le_of_ble_eq_true rfl) dkX2_10 (fun H locs hP hD hS => ?_)
  have hP : va_P (dC, dI) vwCl ([(h0, .inr (2, [.int 0, .ref q1, .null])), (q1, .inl (cyI, 150, .inl (fun j : Nat => Int32.ofInt (SI 0 19 j))))]) H := hP
  have hD : va_D A ([(h0, .inr (2, [.int 0, .ref q1, .null])), (q1, .inl (cyI, 150, .inl (fun j : Nat => Int32.ofInt (SI 0 19 j))))]) := hD
  refine lv_aload_n hx hb dkX2_13 rfl (lv_at hl 0 rfl) ?_
  refine lv_sipush (v := 150) hx hb dkX2_14 (by decide) ?_
  refine nw_arr (atype := .int) (ty := .int) (a0 := (150, .inl (fun j : Nat => Int32.ofInt (SI 0 20 j)))) hx hb (hts _ (GW_in (i := 54) (w := .arrayClass .int) (by decide +kernel))) rfl hK hP hD hS hA 1 rfl (fun C h => by cases h) (fun cA => by first | rfl | exact congrArg (arrV cA 150) (funext fun j => rfl)) (by decide) (by decide) (by decide) (Nat.le_of_ble_eq_true rfl) (Nat.le_of_ble_eq_true rfl) dkX2_17 (fun q2 H hP hD hS => ?_)
  have hP : va_P (dC, dI) vwCl ([(h0, .inr (2, [.int 0, .ref q1, .null])), (q1, .inl (cyI, 150, .inl (fun j : Nat => Int32.ofInt (SI 0 19 j)))), (q2, .inl (cyI, 150, .inl (fun j : Nat => Int32.ofInt (SI 0 20 j))))]) H := hP
  have hD : va_D A ([(h0, .inr (2, [.int 0, .ref q1, .null])), (q1, .inl (cyI, 150, .inl (fun j : Nat => Int32.ofInt (SI 0 19 j)))), (q2, .inl (cyI, 150, .inl (fun j : Nat => Int32.ofInt (SI 0 20 j))))]) := hD
  refine va_putF (D := (dC, dI)) (ci := 2) (v := .ref q2) (ty := .array .int) (C := RX2) (T := TX2) (N := 3) hx hb hts (ob_in (c := 18) (by decide) rfl) tyX2 tyX2_ok nmX2 hown hK hP hD hS 0 rfl rfl 2 (by decide) (hts _ (GW_in (i := 114) (w := .fieldLink RX2 15 "TicketWindows$Mail" "content" "[I") (by decide +kernel))) (fun _ h9 => h9) rfl hin rfl (by decide +kernel) rfl rfl (Nat.le_of_ble_eq_true rfl) dkX2_19 (fun H locs hP hD hS => ?_)
  have hP : va_P (dC, dI) vwCl ([(h0, .inr (2, [.int 0, .ref q1, .ref q2])), (q1, .inl (cyI, 150, .inl (fun j : Nat => Int32.ofInt (SI 0 19 j)))), (q2, .inl (cyI, 150, .inl (fun j : Nat => Int32.ofInt (SI 0 20 j))))]) H := hP
  have hD : va_D A ([(h0, .inr (2, [.int 0, .ref q1, .ref q2])), (q1, .inl (cyI, 150, .inl (fun j : Nat => Int32.ofInt (SI 0 19 j)))), (q2, .inl (cyI, 150, .inl (fun j : Nat => Int32.ofInt (SI 0 20 j))))]) := hD
  have hP9 : va_P (dC, dI) vwCl (bk cyC cyI cyO [18, 19, 20] (fun c => [h0, q1, q2].getD (c - 18) 0)) H := hP
  have hD9 : va_D A (bk cyC cyI cyO [18, 19, 20] (fun c => [h0, q1, q2].getD (c - 18) 0)) := hD
  refine W.widen (k := 2) (n := 300) (Nat.le_of_ble_eq_true rfl) (Nat.le_of_ble_eq_true rfl) ?_
  exact W.vret hx hb hr (fun t ht hW => ⟨⟨(fun c => [h0, q1, q2].getD (c - 18) 0), rfl, trivial, by rw [ht]; exact hP9, hAe ▸ hD9, rfl⟩, hAe ▸ hS.F ht⟩) (hAe ▸ hS.2.2) dkX2_22
theorem dkX5_0 : decode cX5_init 0 = .ok (.aload_n 0, 1) := by decide +kernel
theorem dkX5_1 : decode cX5_init 1 = .ok (.invokespecial 3, 3) := by decide +kernel
theorem dkX5_4 : decode cX5_init 4 = .ok (.aload_n 0, 1) := by decide +kernel
theorem dkX5_5 : decode cX5_init 5 = .ok (.sipush 600, 3) := by decide +kernel
theorem dkX5_8 : decode cX5_init 8 = .ok (.newarray .int, 2) := by decide +kernel
theorem dkX5_10 : decode cX5_init 10 = .ok (.putfield 9, 3) := by decide +kernel
theorem dkX5_13 : decode cX5_init 13 = .ok (.aload_n 0, 1) := by decide +kernel
theorem dkX5_14 : decode cX5_init 14 = .ok (.sipush 600, 3) := by decide +kernel
theorem dkX5_17 : decode cX5_init 17 = .ok (.newarray .int, 2) := by decide +kernel
theorem dkX5_19 : decode cX5_init 19 = .ok (.putfield 15, 3) := by decide +kernel
theorem dkX5_22 : decode cX5_init 22 = .ok (.return_, 1) := by decide +kernel
set_option maxHeartbeats 8000000 in
set_option maxRecDepth 100000 in
theorem k_Tickets (l : Launch) (dC : Nat → ClassId) (dI : Nat → Nat → Nat) (cyC cyI cyO : ClassId) (rho : Nat → Nat → Nat) (Bd Ln : Nat) (xs : Int → Int) (h0 sz : Nat) : Met l yX5_init (.code yX5_init cX5_init 1 none :: GW) ({ frames := 1, cells := 2, slots := 1200, locals := 12 }) (va_Pc [.ref h0] (fun U => U.heap.size = sz ∧ ((Bd ≤ h0 ∧ Bd ≤ sz) ∧ (∀ c, 36 ≤ c → c < 41 → ¬ Bd ≤ rho 0 c)) ∧ va_P (dC, dI) vwCl [(h0, .inr (5, [.null, .null]))] U.heap ∧ St0 dC dI cyC cyI cyO rho (fun q => Bd ≤ q) Ln xs U)) (va_Qv (fun _ : Nat → Nat => True) (fun (ad : Nat → Nat) t => va_P (dC, dI) vwCl (bk cyC cyI cyO [2, 3, 4] ad) t.heap ∧ va_D (va_A [(h0, .inr (5, [.null, .null]))] sz) (bk cyC cyI cyO [2, 3, 4] ad) ∧ ad 2 = h0) (va_A [(h0, .inr (5, [.null, .null]))] sz)) 2 1200 (va_A [(h0, .inr (5, [.null, .null]))] sz) := by
  refine Met.ofW (cc := cX5_init) (maxL := 1) (ret := none) (by decide) rfl ?_
  intro p e s m args below meth c s₁ B hml hv
  obtain ⟨rfl, hsz, ⟨⟨hBh, hBs⟩, hro⟩, hP, hSt⟩ := hv
  have hx := B.exec
  have hb := B.bytes
  have hr := B.returns
  have hts0 := atoms_spec (ws := .code yX5_init cX5_init 1 none :: GW) B.pre
  have hts : ∀ w ∈ GW, w.before _ s = true := fun w hw => hts0 w (List.mem_cons_of_mem _ hw)
  have hown : s.vm.findClass RX5 = some m.cls := findClass_of_methodNamed B.named
  have hlocks := B.notSynchronized
  have hin : meth.name = "<init>" := (name_of_methodNamed B.named B.method).1
  have hK := hSt.1
  subst hsz
  have hD : va_D (va_A [(h0, .inr (5, [.null, .null]))] s.heap.size) [(h0, .inr (5, [.null, .null]))] := D_nd.mpr ⟨by simp, fun q hq => by
    rw [List.mem_singleton] at hq
    rw [hq]
    exact Or.inl ⟨0, _, rfl⟩⟩
  have hAB0 : ∀ q, va_A [(h0, .inr (5, [.null, .null]))] s.heap.size q → Bd ≤ q := fun q h => by
    rcases h with ⟨k, e, h⟩ | h
    · have h1 := List.mem_of_getElem? h
      rw [List.mem_singleton] at h1
      cases h1
      exact hBh
    · exact Nat.le_trans hBs h
  have hA0 : ∀ q : Nat, s.heap.size ≤ q → va_A [(h0, .inr (5, [.null, .null]))] s.heap.size q := fun q h => Or.inr h
  generalize hAe : va_A [(h0, .inr (5, [.null, .null]))] s.heap.size = A at hD hAB0 hA0 ⊢
  have hAB := hAB0
  have hA := hA0
  have hSB : ∀ {H : Heap} {locs : List Loc}, va_S A s.heap H locs → va_S (fun q => Bd ≤ q) s.heap H locs := fun h => ⟨h.1, fun q h1 h2 => h.2.1 q h1 (fun z => h2 (hAB q z)), fun l hl => hAB _ (h.2.2 l hl)⟩
  have hS : va_S A s.heap s.heap [] := va_S.rf
  have hl := lv_entry ([.ref h0]) (n := 1) (Nat.le_of_ble_eq_true rfl)
  rw [lg_entry_eq]
  generalize (lg_sl ([.ref h0]) ++ List.replicate (1 - (lg_sl ([.ref h0])).length) Slot.unset).toArray = ls at hl ⊢
  have hl : lv_has ls 1 [(0, .ref h0)] := hl
  have hP : va_P (dC, dI) vwCl [(h0, .inr (5, [.null, .null]))] s.heap := hP
  refine lv_aload_n hx hb dkX5_0 rfl (lv_at hl 0 rfl) ?_
  refine W.objInit hx hb hown (hts _ (GW_in (i := 46) (w := .methodLink RX5 3 objectInit) (by decide +kernel))) (hts _ (GW_in (i := 31) (w := .instanceMethod objectInit) (by decide +kernel))) (hts _ (GW_in (i := 32) (w := .code objectInit ⟨#[0xb1]⟩ 1 none) (by decide +kernel))) rfl (by rw [hml]; exact hl.1) rfl dkX5_1 (Nat.le_of_ble_eq_true rfl) (Nat.le_of_ble_eq_true rfl) ?_
  refine W.eq (g2 := F0 m 4 ls []) rfl ?_
  refine lv_aload_n hx hb dkX5_4 rfl (lv_at hl 0 rfl) ?_
  refine lv_sipush (v := 600) hx hb dkX5_5 (by decide) ?_
  refine nw_arr (atype := .int) (ty := .int) (a0 := (600, .inl (fun j : Nat => Int32.ofInt (SI 0 3 j)))) hx hb (hts _ (GW_in (i := 54) (w := .arrayClass .int) (by decide +kernel))) rfl hK hP hD hS hA 1 rfl (fun C h => by cases h) (fun cA => by first | rfl | exact congrArg (arrV cA 600) (funext fun j => rfl)) (by decide) (by decide) (by decide) (Nat.le_of_ble_eq_true rfl) (Nat.le_of_ble_eq_true rfl) dkX5_8 (fun q1 H hP hD hS => ?_)
  have hP : va_P (dC, dI) vwCl ([(h0, .inr (5, [.null, .null])), (q1, .inl (cyI, 600, .inl (fun j : Nat => Int32.ofInt (SI 0 3 j))))]) H := hP
  have hD : va_D A ([(h0, .inr (5, [.null, .null])), (q1, .inl (cyI, 600, .inl (fun j : Nat => Int32.ofInt (SI 0 3 j))))]) := hD
  refine va_putF (D := (dC, dI)) (ci := 5) (v := .ref q1) (ty := .array .int) (C := RX5) (T := TX5) (N := 2) hx hb hts (ob_in (c := 2) (by decide) rfl) tyX5 tyX5_ok nmX5 hown hK hP hD hS 0 rfl rfl 0 (by decide) (hts _ (GW_in (i := 47) (w := .fieldLink RX5 9 "TicketWindows$Tickets" "facts" "[I") (by decide +kernel))) (fun _ h9 => h9) rfl hin rfl (by decide +kernel) rfl rfl (Nat.le_of_ble_eq_true rfl) dkX5_10 (fun H locs hP hD hS => ?_)
  have hP : va_P (dC, dI) vwCl ([(h0, .inr (5, [.ref q1, .null])), (q1, .inl (cyI, 600, .inl (fun j : Nat => Int32.ofInt (SI 0 3 j))))]) H := hP
  have hD : va_D A ([(h0, .inr (5, [.ref q1, .null])), (q1, .inl (cyI, 600, .inl (fun j : Nat => Int32.ofInt (SI 0 3 j))))]) := hD
  refine lv_aload_n hx hb dkX5_13 rfl (lv_at hl 0 rfl) ?_
  refine lv_sipush (v := 600) hx hb dkX5_14 (by decide) ?_
  refine nw_arr (atype := .int) (ty := .int) (a0 := (600, .inl (fun j : Nat => Int32.ofInt (SI 0 4 j)))) hx hb (hts _ (GW_in (i := 54) (w := .arrayClass .int) (by decide +kernel))) rfl hK hP hD hS hA 1 rfl (fun C h => by cases h) (fun cA => by first | rfl | exact congrArg (arrV cA 600) (funext fun j => rfl)) (by decide) (by decide) (by decide) (Nat.le_of_ble_eq_true rfl) (Nat.le_of_ble_eq_true rfl) dkX5_17 (fun q2 H hP hD hS => ?_)
  have hP : va_P (dC, dI) vwCl ([(h0, .inr (5, [.ref q1, .null])), (q1, .inl (cyI, 600, .inl (fun j : Nat => Int32.ofInt (SI 0 3 j)))), (q2, .inl (cyI, 600, .inl (fun j : Nat => Int32.ofInt (SI 0 4 j))))]) H := hP
  have hD : va_D A ([(h0, .inr (5, [.ref q1, .null])), (q1, .inl (cyI, 600, .inl (fun j : Nat => Int32.ofInt (SI 0 3 j)))), (q2, .inl (cyI, 600, .inl (fun j : Nat => Int32.ofInt (SI 0 4 j))))]) := hD
  refine va_putF (D := (dC, dI)) (ci := 5) (v := .ref q2) (ty := .array .int) (C := RX5) (T := TX5) (N := 2) hx hb hts (ob_in (c := 2) (by decide) rfl) tyX5 tyX5_ok nmX5 hown hK hP hD hS 0 rfl rfl 1 (by decide) (hts _ (GW_in (i := 48) (w := .fieldLink RX5 15 "TicketWindows$Tickets" "firstPayment" "[I") (by decide +kernel))) (fun _ h9 => h9) rfl hin rfl (by decide +kernel) rfl rfl (Nat.le_of_ble_eq_true rfl) dkX5_19 (fun H locs hP hD hS => ?_)
  have hP : va_P (dC, dI) vwCl ([(h0, .inr (5, [.ref q1, .ref q2])), (q1, .inl (cyI, 600, .inl (fun j : Nat => Int32.ofInt (SI 0 3 j)))), (q2, .inl (cyI, 600, .inl (fun j : Nat => Int32.ofInt (SI 0 4 j))))]) H := hP
  have hD : va_D A ([(h0, .inr (5, [.ref q1, .ref q2])), (q1, .inl (cyI, 600, .inl (fun j : Nat => Int32.ofInt (SI 0 3 j)))), (q2, .inl (cyI, 600, .inl (fun j : Nat => Int32.ofInt (SI 0 4 j))))]) := hD
  have hP9 : va_P (dC, dI) vwCl (bk cyC cyI cyO [2, 3, 4] (fun c => [h0, q1, q2].getD (c - 2) 0)) H := hP
  have hD9 : va_D A (bk cyC cyI cyO [2, 3, 4] (fun c => [h0, q1, q2].getD (c - 2) 0)) := hD
  refine W.widen (k := 2) (n := 1200) (Nat.le_of_ble_eq_true rfl) (Nat.le_of_ble_eq_true rfl) ?_
  exact W.vret hx hb hr (fun t ht hW => ⟨⟨(fun c => [h0, q1, q2].getD (c - 2) 0), rfl, trivial, by rw [ht]; exact hP9, hAe ▸ hD9, rfl⟩, hAe ▸ hS.F ht⟩) (hAe ▸ hS.2.2) dkX5_22
theorem dkX6_0 : decode cX6_init 0 = .ok (.aload_n 0, 1) := by decide +kernel
theorem dkX6_1 : decode cX6_init 1 = .ok (.invokespecial 3, 3) := by decide +kernel
theorem dkX6_4 : decode cX6_init 4 = .ok (.aload_n 0, 1) := by decide +kernel
theorem dkX6_5 : decode cX6_init 5 = .ok (.bipush 24, 2) := by decide +kernel
theorem dkX6_7 : decode cX6_init 7 = .ok (.newarray .int, 2) := by decide +kernel
theorem dkX6_9 : decode cX6_init 9 = .ok (.putfield 9, 3) := by decide +kernel
theorem dkX6_12 : decode cX6_init 12 = .ok (.aload_n 0, 1) := by decide +kernel
theorem dkX6_13 : decode cX6_init 13 = .ok (.iconst 3, 1) := by decide +kernel
theorem dkX6_14 : decode cX6_init 14 = .ok (.newarray .int, 2) := by decide +kernel
theorem dkX6_16 : decode cX6_init 16 = .ok (.putfield 15, 3) := by decide +kernel
theorem dkX6_19 : decode cX6_init 19 = .ok (.aload_n 0, 1) := by decide +kernel
theorem dkX6_20 : decode cX6_init 20 = .ok (.iconst 3, 1) := by decide +kernel
theorem dkX6_21 : decode cX6_init 21 = .ok (.newarray .int, 2) := by decide +kernel
theorem dkX6_23 : decode cX6_init 23 = .ok (.putfield 18, 3) := by decide +kernel
theorem dkX6_26 : decode cX6_init 26 = .ok (.iconst 0, 1) := by decide +kernel
theorem dkX6_27 : decode cX6_init 27 = .ok (.istore_n 1, 1) := by decide +kernel
theorem dkX6_28 : decode cX6_init 28 = .ok (.iload_n 1, 1) := by decide +kernel
theorem dkX6_29 : decode cX6_init 29 = .ok (.iconst 3, 1) := by decide +kernel
theorem dkX6_30 : decode cX6_init 30 = .ok (.if_icmp .ge 17, 3) := by decide +kernel
theorem dkX6_33 : decode cX6_init 33 = .ok (.aload_n 0, 1) := by decide +kernel
theorem dkX6_34 : decode cX6_init 34 = .ok (.getfield 18, 3) := by decide +kernel
theorem dkX6_37 : decode cX6_init 37 = .ok (.iload_n 1, 1) := by decide +kernel
theorem dkX6_38 : decode cX6_init 38 = .ok (.bipush (-5), 2) := by decide +kernel
theorem dkX6_40 : decode cX6_init 40 = .ok (.iastore, 1) := by decide +kernel
theorem dkX6_41 : decode cX6_init 41 = .ok (.iinc 1 1, 3) := by decide +kernel
theorem dkX6_44 : decode cX6_init 44 = .ok (.goto (-16), 3) := by decide +kernel
theorem dkX6_47 : decode cX6_init 47 = .ok (.aload_n 0, 1) := by decide +kernel
theorem dkX6_48 : decode cX6_init 48 = .ok (.iconst 3, 1) := by decide +kernel
theorem dkX6_49 : decode cX6_init 49 = .ok (.newarray .int, 2) := by decide +kernel
theorem dkX6_51 : decode cX6_init 51 = .ok (.putfield 21, 3) := by decide +kernel
theorem dkX6_54 : decode cX6_init 54 = .ok (.aload_n 0, 1) := by decide +kernel
theorem dkX6_55 : decode cX6_init 55 = .ok (.iconst 3, 1) := by decide +kernel
theorem dkX6_56 : decode cX6_init 56 = .ok (.newarray .int, 2) := by decide +kernel
theorem dkX6_58 : decode cX6_init 58 = .ok (.putfield 24, 3) := by decide +kernel
theorem dkX6_61 : decode cX6_init 61 = .ok (.aload_n 0, 1) := by decide +kernel
theorem dkX6_62 : decode cX6_init 62 = .ok (.iconst 3, 1) := by decide +kernel
theorem dkX6_63 : decode cX6_init 63 = .ok (.newarray .int, 2) := by decide +kernel
theorem dkX6_65 : decode cX6_init 65 = .ok (.putfield 27, 3) := by decide +kernel
theorem dkX6_68 : decode cX6_init 68 = .ok (.aload_n 0, 1) := by decide +kernel
theorem dkX6_69 : decode cX6_init 69 = .ok (.iconst 3, 1) := by decide +kernel
theorem dkX6_70 : decode cX6_init 70 = .ok (.newarray .int, 2) := by decide +kernel
theorem dkX6_72 : decode cX6_init 72 = .ok (.putfield 30, 3) := by decide +kernel
theorem dkX6_75 : decode cX6_init 75 = .ok (.aload_n 0, 1) := by decide +kernel
theorem dkX6_76 : decode cX6_init 76 = .ok (.iconst 3, 1) := by decide +kernel
theorem dkX6_77 : decode cX6_init 77 = .ok (.newarray .int, 2) := by decide +kernel
theorem dkX6_79 : decode cX6_init 79 = .ok (.putfield 33, 3) := by decide +kernel
theorem dkX6_82 : decode cX6_init 82 = .ok (.return_, 1) := by decide +kernel
set_option maxHeartbeats 8000000 in
set_option maxRecDepth 100000 in
theorem k_Windows (l : Launch) (dC : Nat → ClassId) (dI : Nat → Nat → Nat) (cyC cyI cyO : ClassId) (rho : Nat → Nat → Nat) (Bd Ln : Nat) (xs : Int → Int) (h0 sz : Nat) : Met l yX6_init (.code yX6_init cX6_init 2 none :: GW) ({ frames := 1, cells := 8, slots := 45, locals := 12 }) (va_Pc [.ref h0] (fun U => U.heap.size = sz ∧ ((Bd ≤ h0 ∧ Bd ≤ sz) ∧ (∀ c, 36 ≤ c → c < 41 → ¬ Bd ≤ rho 0 c)) ∧ va_P (dC, dI) vwCl [(h0, .inr (6, [.null, .null, .null, .null, .null, .null, .null, .null]))] U.heap ∧ St0 dC dI cyC cyI cyO rho (fun q => Bd ≤ q) Ln xs U)) (va_Qv (fun _ : Nat → Nat => True) (fun (ad : Nat → Nat) t => va_P (dC, dI) vwCl (bk cyC cyI cyO [9, 10, 11, 12, 13, 14, 15, 16, 17] ad) t.heap ∧ va_D (va_A [(h0, .inr (6, [.null, .null, .null, .null, .null, .null, .null, .null]))] sz) (bk cyC cyI cyO [9, 10, 11, 12, 13, 14, 15, 16, 17] ad) ∧ ad 9 = h0) (va_A [(h0, .inr (6, [.null, .null, .null, .null, .null, .null, .null, .null]))] sz)) 8 45 (va_A [(h0, .inr (6, [.null, .null, .null, .null, .null, .null, .null, .null]))] sz) := by
  refine Met.ofW (cc := cX6_init) (maxL := 2) (ret := none) (by decide) rfl ?_
  intro p e s m args below meth c s₁ B hml hv
  obtain ⟨rfl, hsz, ⟨⟨hBh, hBs⟩, hro⟩, hP, hSt⟩ := hv
  have hx := B.exec
  have hb := B.bytes
  have hr := B.returns
  have hts0 := atoms_spec (ws := .code yX6_init cX6_init 2 none :: GW) B.pre
  have hts : ∀ w ∈ GW, w.before _ s = true := fun w hw => hts0 w (List.mem_cons_of_mem _ hw)
  have hown : s.vm.findClass RX6 = some m.cls := findClass_of_methodNamed B.named
  have hlocks := B.notSynchronized
  have hin : meth.name = "<init>" := (name_of_methodNamed B.named B.method).1
  have hK := hSt.1
  subst hsz
  have hD : va_D (va_A [(h0, .inr (6, [.null, .null, .null, .null, .null, .null, .null, .null]))] s.heap.size) [(h0, .inr (6, [.null, .null, .null, .null, .null, .null, .null, .null]))] := D_nd.mpr ⟨by simp, fun q hq => by
    rw [List.mem_singleton] at hq
    rw [hq]
    exact Or.inl ⟨0, _, rfl⟩⟩
  have hAB0 : ∀ q, va_A [(h0, .inr (6, [.null, .null, .null, .null, .null, .null, .null, .null]))] s.heap.size q → Bd ≤ q := fun q h => by
    rcases h with ⟨k, e, h⟩ | h
    · have h1 := List.mem_of_getElem? h
      rw [List.mem_singleton] at h1
      cases h1
      exact hBh
    · exact Nat.le_trans hBs h
  have hA0 : ∀ q : Nat, s.heap.size ≤ q → va_A [(h0, .inr (6, [.null, .null, .null, .null, .null, .null, .null, .null]))] s.heap.size q := fun q h => Or.inr h
  generalize hAe : va_A [(h0, .inr (6, [.null, .null, .null, .null, .null, .null, .null, .null]))] s.heap.size = A at hD hAB0 hA0 ⊢
  have hAB := hAB0
  have hA := hA0
  have hSB : ∀ {H : Heap} {locs : List Loc}, va_S A s.heap H locs → va_S (fun q => Bd ≤ q) s.heap H locs := fun h => ⟨h.1, fun q h1 h2 => h.2.1 q h1 (fun z => h2 (hAB q z)), fun l hl => hAB _ (h.2.2 l hl)⟩
  have hS : va_S A s.heap s.heap [] := va_S.rf
  have hl := lv_entry ([.ref h0]) (n := 2) (Nat.le_of_ble_eq_true rfl)
  rw [lg_entry_eq]
  generalize (lg_sl ([.ref h0]) ++ List.replicate (2 - (lg_sl ([.ref h0])).length) Slot.unset).toArray = ls at hl ⊢
  have hl : lv_has ls 2 [(0, .ref h0)] := hl
  have hP : va_P (dC, dI) vwCl [(h0, .inr (6, [.null, .null, .null, .null, .null, .null, .null, .null]))] s.heap := hP
  refine lv_aload_n hx hb dkX6_0 rfl (lv_at hl 0 rfl) ?_
  refine W.objInit hx hb hown (hts _ (GW_in (i := 78) (w := .methodLink RX6 3 objectInit) (by decide +kernel))) (hts _ (GW_in (i := 31) (w := .instanceMethod objectInit) (by decide +kernel))) (hts _ (GW_in (i := 32) (w := .code objectInit ⟨#[0xb1]⟩ 1 none) (by decide +kernel))) rfl (by rw [hml]; exact hl.1) rfl dkX6_1 (Nat.le_of_ble_eq_true rfl) (Nat.le_of_ble_eq_true rfl) ?_
  refine W.eq (g2 := F0 m 4 ls []) rfl ?_
  refine lv_aload_n hx hb dkX6_4 rfl (lv_at hl 0 rfl) ?_
  refine lv_bipush (v := 24) hx hb dkX6_5 (by decide) ?_
  refine nw_arr (atype := .int) (ty := .int) (a0 := (24, .inl (fun j : Nat => Int32.ofInt (SI 0 10 j)))) hx hb (hts _ (GW_in (i := 54) (w := .arrayClass .int) (by decide +kernel))) rfl hK hP hD hS hA 1 rfl (fun C h => by cases h) (fun cA => by first | rfl | exact congrArg (arrV cA 24) (funext fun j => rfl)) (by decide) (by decide) (by decide) (Nat.le_of_ble_eq_true rfl) (Nat.le_of_ble_eq_true rfl) dkX6_7 (fun q1 H hP hD hS => ?_)
  have hP : va_P (dC, dI) vwCl ([(h0, .inr (6, [.null, .null, .null, .null, .null, .null, .null, .null])), (q1, .inl (cyI, 24, .inl (fun j : Nat => Int32.ofInt (SI 0 10 j))))]) H := hP
  have hD : va_D A ([(h0, .inr (6, [.null, .null, .null, .null, .null, .null, .null, .null])), (q1, .inl (cyI, 24, .inl (fun j : Nat => Int32.ofInt (SI 0 10 j))))]) := hD
  refine va_putF (D := (dC, dI)) (ci := 6) (v := .ref q1) (ty := .array .int) (C := RX6) (T := TX6) (N := 8) hx hb hts (ob_in (c := 9) (by decide) rfl) tyX6 tyX6_ok nmX6 hown hK hP hD hS 0 rfl rfl 0 (by decide) (hts _ (GW_in (i := 79) (w := .fieldLink RX6 9 "TicketWindows$Windows" "rows" "[I") (by decide +kernel))) (fun _ h9 => h9) rfl hin rfl (by decide +kernel) rfl rfl (Nat.le_of_ble_eq_true rfl) dkX6_9 (fun H locs hP hD hS => ?_)
  have hP : va_P (dC, dI) vwCl ([(h0, .inr (6, [.ref q1, .null, .null, .null, .null, .null, .null, .null])), (q1, .inl (cyI, 24, .inl (fun j : Nat => Int32.ofInt (SI 0 10 j))))]) H := hP
  have hD : va_D A ([(h0, .inr (6, [.ref q1, .null, .null, .null, .null, .null, .null, .null])), (q1, .inl (cyI, 24, .inl (fun j : Nat => Int32.ofInt (SI 0 10 j))))]) := hD
  refine lv_aload_n hx hb dkX6_12 rfl (lv_at hl 0 rfl) ?_
  refine lv_iconst (v := 3) hx hb dkX6_13 (by decide) ?_
  refine nw_arr (atype := .int) (ty := .int) (a0 := (3, .inl (fun j : Nat => Int32.ofInt (SI 0 11 j)))) hx hb (hts _ (GW_in (i := 54) (w := .arrayClass .int) (by decide +kernel))) rfl hK hP hD hS hA 1 rfl (fun C h => by cases h) (fun cA => by first | rfl | exact congrArg (arrV cA 3) (funext fun j => rfl)) (by decide) (by decide) (by decide) (Nat.le_of_ble_eq_true rfl) (Nat.le_of_ble_eq_true rfl) dkX6_14 (fun q2 H hP hD hS => ?_)
  have hP : va_P (dC, dI) vwCl ([(h0, .inr (6, [.ref q1, .null, .null, .null, .null, .null, .null, .null])), (q1, .inl (cyI, 24, .inl (fun j : Nat => Int32.ofInt (SI 0 10 j)))), (q2, .inl (cyI, 3, .inl (fun j : Nat => Int32.ofInt (SI 0 11 j))))]) H := hP
  have hD : va_D A ([(h0, .inr (6, [.ref q1, .null, .null, .null, .null, .null, .null, .null])), (q1, .inl (cyI, 24, .inl (fun j : Nat => Int32.ofInt (SI 0 10 j)))), (q2, .inl (cyI, 3, .inl (fun j : Nat => Int32.ofInt (SI 0 11 j))))]) := hD
  refine va_putF (D := (dC, dI)) (ci := 6) (v := .ref q2) (ty := .array .int) (C := RX6) (T := TX6) (N := 8) hx hb hts (ob_in (c := 9) (by decide) rfl) tyX6 tyX6_ok nmX6 hown hK hP hD hS 0 rfl rfl 1 (by decide) (hts _ (GW_in (i := 80) (w := .fieldLink RX6 15 "TicketWindows$Windows" "length" "[I") (by decide +kernel))) (fun _ h9 => h9) rfl hin rfl (by decide +kernel) rfl rfl (Nat.le_of_ble_eq_true rfl) dkX6_16 (fun H locs hP hD hS => ?_)
  have hP : va_P (dC, dI) vwCl ([(h0, .inr (6, [.ref q1, .ref q2, .null, .null, .null, .null, .null, .null])), (q1, .inl (cyI, 24, .inl (fun j : Nat => Int32.ofInt (SI 0 10 j)))), (q2, .inl (cyI, 3, .inl (fun j : Nat => Int32.ofInt (SI 0 11 j))))]) H := hP
  have hD : va_D A ([(h0, .inr (6, [.ref q1, .ref q2, .null, .null, .null, .null, .null, .null])), (q1, .inl (cyI, 24, .inl (fun j : Nat => Int32.ofInt (SI 0 10 j)))), (q2, .inl (cyI, 3, .inl (fun j : Nat => Int32.ofInt (SI 0 11 j))))]) := hD
  refine lv_aload_n hx hb dkX6_19 rfl (lv_at hl 0 rfl) ?_
  refine lv_iconst (v := 3) hx hb dkX6_20 (by decide) ?_
  refine nw_arr (atype := .int) (ty := .int) (a0 := (3, .inl (fun _ : Nat => (0 : Int32)))) hx hb (hts _ (GW_in (i := 54) (w := .arrayClass .int) (by decide +kernel))) rfl hK hP hD hS hA 1 rfl (fun C h => by cases h) (fun cA => by first | rfl | exact congrArg (arrV cA 3) (funext fun j => rfl)) (by decide) (by decide) (by decide) (Nat.le_of_ble_eq_true rfl) (Nat.le_of_ble_eq_true rfl) dkX6_21 (fun q3 H hP hD hS => ?_)
  have hP : va_P (dC, dI) vwCl ([(h0, .inr (6, [.ref q1, .ref q2, .null, .null, .null, .null, .null, .null])), (q1, .inl (cyI, 24, .inl (fun j : Nat => Int32.ofInt (SI 0 10 j)))), (q2, .inl (cyI, 3, .inl (fun j : Nat => Int32.ofInt (SI 0 11 j)))), (q3, .inl (cyI, 3, .inl (fun _ : Nat => (0 : Int32))))]) H := hP
  have hD : va_D A ([(h0, .inr (6, [.ref q1, .ref q2, .null, .null, .null, .null, .null, .null])), (q1, .inl (cyI, 24, .inl (fun j : Nat => Int32.ofInt (SI 0 10 j)))), (q2, .inl (cyI, 3, .inl (fun j : Nat => Int32.ofInt (SI 0 11 j)))), (q3, .inl (cyI, 3, .inl (fun _ : Nat => (0 : Int32))))]) := hD
  refine va_putF (D := (dC, dI)) (ci := 6) (v := .ref q3) (ty := .array .int) (C := RX6) (T := TX6) (N := 8) hx hb hts (ob_in (c := 9) (by decide) rfl) tyX6 tyX6_ok nmX6 hown hK hP hD hS 0 rfl rfl 2 (by decide) (hts _ (GW_in (i := 81) (w := .fieldLink RX6 18 "TicketWindows$Windows" "waitsFor" "[I") (by decide +kernel))) (fun _ h9 => h9) rfl hin rfl (by decide +kernel) rfl rfl (Nat.le_of_ble_eq_true rfl) dkX6_23 (fun H locs hP hD hS => ?_)
  have hP : va_P (dC, dI) vwCl ([(h0, .inr (6, [.ref q1, .ref q2, .ref q3, .null, .null, .null, .null, .null])), (q1, .inl (cyI, 24, .inl (fun j : Nat => Int32.ofInt (SI 0 10 j)))), (q2, .inl (cyI, 3, .inl (fun j : Nat => Int32.ofInt (SI 0 11 j)))), (q3, .inl (cyI, 3, .inl (fun _ : Nat => (0 : Int32))))]) H := hP
  have hD : va_D A ([(h0, .inr (6, [.ref q1, .ref q2, .ref q3, .null, .null, .null, .null, .null])), (q1, .inl (cyI, 24, .inl (fun j : Nat => Int32.ofInt (SI 0 10 j)))), (q2, .inl (cyI, 3, .inl (fun j : Nat => Int32.ofInt (SI 0 11 j)))), (q3, .inl (cyI, 3, .inl (fun _ : Nat => (0 : Int32))))]) := hD
  refine lv_iconst (v := 0) hx hb dkX6_26 (by decide) ?_
  refine lv_istore_n (lv' := [(1, .int 0), (0, .ref h0)]) hx hb dkX6_27 rfl hl (by decide) rfl (fun ls hl => ?_)
  refine lv_iload_n hx hb dkX6_28 rfl (lv_at hl 0 rfl) ?_
  refine lv_iconst (v := 3) hx hb dkX6_29 (by decide) ?_
  refine lv_icmp_ge (tgt := 47) hx hb dkX6_30 (by decide) (fun q => absurd q (by decide)) (fun _ => ?_)
  refine lv_aload_n hx hb dkX6_33 rfl (lv_at hl 1 rfl) ?_
  refine va_get (D := (dC, dI)) (ci := 6) (v := .ref q3) (C := RX6) (T := TX6) (N := 8) hx hb hts (ob_in (c := 9) (by decide) rfl) hown hK hP 0 rfl rfl 2 (by decide) (hts _ (GW_in (i := 81) (w := .fieldLink RX6 18 "TicketWindows$Windows" "waitsFor" "[I") (by decide +kernel))) (fun _ h9 => h9) rfl dkX6_34 ?_
  refine lv_iload_n hx hb dkX6_37 rfl (lv_at hl 0 rfl) ?_
  refine lv_bipush (v := -5) hx hb dkX6_38 (by decide) ?_
  refine va_iast hx hb hK hP hD hS 3 1 rfl rfl (by unfold vp_in; decide) dkX6_40 (fun H locs hP hD hS => ?_)
  have hP : va_P (dC, dI) vwCl ([(h0, .inr (6, [.ref q1, .ref q2, .ref q3, .null, .null, .null, .null, .null])), (q1, .inl (cyI, 24, .inl (fun j : Nat => Int32.ofInt (SI 0 10 j)))), (q2, .inl (cyI, 3, .inl (fun j : Nat => Int32.ofInt (SI 0 11 j)))), (q3, .inl (cyI, 3, .inl (upd (fun _ : Nat => (0 : Int32)) 0 (-5))))]) H := hP
  have hD : va_D A ([(h0, .inr (6, [.ref q1, .ref q2, .ref q3, .null, .null, .null, .null, .null])), (q1, .inl (cyI, 24, .inl (fun j : Nat => Int32.ofInt (SI 0 10 j)))), (q2, .inl (cyI, 3, .inl (fun j : Nat => Int32.ofInt (SI 0 11 j)))), (q3, .inl (cyI, 3, .inl (upd (fun _ : Nat => (0 : Int32)) 0 (-5))))]) := hD
  refine lv_iinc (v := 1) (lv' := [(1, .int 1), (0, .ref h0)]) hx hb dkX6_41 hl (k := 0) rfl (by decide) (by decide) rfl (fun ls hl => ?_)
  refine lv_goto (tgt := 28) hx hb dkX6_44 (by decide) ?_
  refine lv_iload_n hx hb dkX6_28 rfl (lv_at hl 0 rfl) ?_
  refine lv_iconst (v := 3) hx hb dkX6_29 (by decide) ?_
  refine lv_icmp_ge (tgt := 47) hx hb dkX6_30 (by decide) (fun q => absurd q (by decide)) (fun _ => ?_)
  refine lv_aload_n hx hb dkX6_33 rfl (lv_at hl 1 rfl) ?_
  refine va_get (D := (dC, dI)) (ci := 6) (v := .ref q3) (C := RX6) (T := TX6) (N := 8) hx hb hts (ob_in (c := 9) (by decide) rfl) hown hK hP 0 rfl rfl 2 (by decide) (hts _ (GW_in (i := 81) (w := .fieldLink RX6 18 "TicketWindows$Windows" "waitsFor" "[I") (by decide +kernel))) (fun _ h9 => h9) rfl dkX6_34 ?_
  refine lv_iload_n hx hb dkX6_37 rfl (lv_at hl 0 rfl) ?_
  refine lv_bipush (v := -5) hx hb dkX6_38 (by decide) ?_
  refine va_iast hx hb hK hP hD hS 3 1 rfl rfl (by unfold vp_in; decide) dkX6_40 (fun H locs hP hD hS => ?_)
  have hP : va_P (dC, dI) vwCl ([(h0, .inr (6, [.ref q1, .ref q2, .ref q3, .null, .null, .null, .null, .null])), (q1, .inl (cyI, 24, .inl (fun j : Nat => Int32.ofInt (SI 0 10 j)))), (q2, .inl (cyI, 3, .inl (fun j : Nat => Int32.ofInt (SI 0 11 j)))), (q3, .inl (cyI, 3, .inl (upd (upd (fun _ : Nat => (0 : Int32)) 0 (-5)) 1 (-5))))]) H := hP
  have hD : va_D A ([(h0, .inr (6, [.ref q1, .ref q2, .ref q3, .null, .null, .null, .null, .null])), (q1, .inl (cyI, 24, .inl (fun j : Nat => Int32.ofInt (SI 0 10 j)))), (q2, .inl (cyI, 3, .inl (fun j : Nat => Int32.ofInt (SI 0 11 j)))), (q3, .inl (cyI, 3, .inl (upd (upd (fun _ : Nat => (0 : Int32)) 0 (-5)) 1 (-5))))]) := hD
  refine lv_iinc (v := 2) (lv' := [(1, .int 2), (0, .ref h0)]) hx hb dkX6_41 hl (k := 0) rfl (by decide) (by decide) rfl (fun ls hl => ?_)
  refine lv_goto (tgt := 28) hx hb dkX6_44 (by decide) ?_
  refine lv_iload_n hx hb dkX6_28 rfl (lv_at hl 0 rfl) ?_
  refine lv_iconst (v := 3) hx hb dkX6_29 (by decide) ?_
  refine lv_icmp_ge (tgt := 47) hx hb dkX6_30 (by decide) (fun q => absurd q (by decide)) (fun _ => ?_)
  refine lv_aload_n hx hb dkX6_33 rfl (lv_at hl 1 rfl) ?_
  refine va_get (D := (dC, dI)) (ci := 6) (v := .ref q3) (C := RX6) (T := TX6) (N := 8) hx hb hts (ob_in (c := 9) (by decide) rfl) hown hK hP 0 rfl rfl 2 (by decide) (hts _ (GW_in (i := 81) (w := .fieldLink RX6 18 "TicketWindows$Windows" "waitsFor" "[I") (by decide +kernel))) (fun _ h9 => h9) rfl dkX6_34 ?_
  refine lv_iload_n hx hb dkX6_37 rfl (lv_at hl 0 rfl) ?_
  refine lv_bipush (v := -5) hx hb dkX6_38 (by decide) ?_
  refine va_iast hx hb hK hP hD hS 3 1 rfl rfl (by unfold vp_in; decide) dkX6_40 (fun H locs hP hD hS => ?_)
  have hP : va_P (dC, dI) vwCl ([(h0, .inr (6, [.ref q1, .ref q2, .ref q3, .null, .null, .null, .null, .null])), (q1, .inl (cyI, 24, .inl (fun j : Nat => Int32.ofInt (SI 0 10 j)))), (q2, .inl (cyI, 3, .inl (fun j : Nat => Int32.ofInt (SI 0 11 j)))), (q3, .inl (cyI, 3, .inl (upd (upd (upd (fun _ : Nat => (0 : Int32)) 0 (-5)) 1 (-5)) 2 (-5))))]) H := hP
  have hD : va_D A ([(h0, .inr (6, [.ref q1, .ref q2, .ref q3, .null, .null, .null, .null, .null])), (q1, .inl (cyI, 24, .inl (fun j : Nat => Int32.ofInt (SI 0 10 j)))), (q2, .inl (cyI, 3, .inl (fun j : Nat => Int32.ofInt (SI 0 11 j)))), (q3, .inl (cyI, 3, .inl (upd (upd (upd (fun _ : Nat => (0 : Int32)) 0 (-5)) 1 (-5)) 2 (-5))))]) := hD
  refine lv_iinc (v := 3) (lv' := [(1, .int 3), (0, .ref h0)]) hx hb dkX6_41 hl (k := 0) rfl (by decide) (by decide) rfl (fun ls hl => ?_)
  refine lv_goto (tgt := 28) hx hb dkX6_44 (by decide) ?_
  refine lv_iload_n hx hb dkX6_28 rfl (lv_at hl 0 rfl) ?_
  refine lv_iconst (v := 3) hx hb dkX6_29 (by decide) ?_
  refine lv_icmp_ge (tgt := 47) hx hb dkX6_30 (by decide) (fun _ => ?_) (fun q => absurd (by decide) q)
  refine lv_aload_n hx hb dkX6_47 rfl (lv_at hl 1 rfl) ?_
  refine lv_iconst (v := 3) hx hb dkX6_48 (by decide) ?_
  refine nw_arr (atype := .int) (ty := .int) (a0 := (3, .inl (fun j : Nat => Int32.ofInt (SI 0 13 j)))) hx hb (hts _ (GW_in (i := 54) (w := .arrayClass .int) (by decide +kernel))) rfl hK hP hD hS hA 1 rfl (fun C h => by cases h) (fun cA => by first | rfl | exact congrArg (arrV cA 3) (funext fun j => rfl)) (by decide) (by decide) (by decide) (Nat.le_of_ble_eq_true rfl) (Nat.le_of_ble_eq_true rfl) dkX6_49 (fun q4 H hP hD hS => ?_)
  have hP : va_P (dC, dI) vwCl ([(h0, .inr (6, [.ref q1, .ref q2, .ref q3, .null, .null, .null, .null, .null])), (q1, .inl (cyI, 24, .inl (fun j : Nat => Int32.ofInt (SI 0 10 j)))), (q2, .inl (cyI, 3, .inl (fun j : Nat => Int32.ofInt (SI 0 11 j)))), (q3, .inl (cyI, 3, .inl (upd (upd (upd (fun _ : Nat => (0 : Int32)) 0 (-5)) 1 (-5)) 2 (-5)))), (q4, .inl (cyI, 3, .inl (fun j : Nat => Int32.ofInt (SI 0 13 j))))]) H := hP
  have hD : va_D A ([(h0, .inr (6, [.ref q1, .ref q2, .ref q3, .null, .null, .null, .null, .null])), (q1, .inl (cyI, 24, .inl (fun j : Nat => Int32.ofInt (SI 0 10 j)))), (q2, .inl (cyI, 3, .inl (fun j : Nat => Int32.ofInt (SI 0 11 j)))), (q3, .inl (cyI, 3, .inl (upd (upd (upd (fun _ : Nat => (0 : Int32)) 0 (-5)) 1 (-5)) 2 (-5)))), (q4, .inl (cyI, 3, .inl (fun j : Nat => Int32.ofInt (SI 0 13 j))))]) := hD
  refine va_putF (D := (dC, dI)) (ci := 6) (v := .ref q4) (ty := .array .int) (C := RX6) (T := TX6) (N := 8) hx hb hts (ob_in (c := 9) (by decide) rfl) tyX6 tyX6_ok nmX6 hown hK hP hD hS 0 rfl rfl 3 (by decide) (hts _ (GW_in (i := 83) (w := .fieldLink RX6 21 "TicketWindows$Windows" "waited" "[I") (by decide +kernel))) (fun _ h9 => h9) rfl hin rfl (by decide +kernel) rfl rfl (Nat.le_of_ble_eq_true rfl) dkX6_51 (fun H locs hP hD hS => ?_)
  have hP : va_P (dC, dI) vwCl ([(h0, .inr (6, [.ref q1, .ref q2, .ref q3, .ref q4, .null, .null, .null, .null])), (q1, .inl (cyI, 24, .inl (fun j : Nat => Int32.ofInt (SI 0 10 j)))), (q2, .inl (cyI, 3, .inl (fun j : Nat => Int32.ofInt (SI 0 11 j)))), (q3, .inl (cyI, 3, .inl (upd (upd (upd (fun _ : Nat => (0 : Int32)) 0 (-5)) 1 (-5)) 2 (-5)))), (q4, .inl (cyI, 3, .inl (fun j : Nat => Int32.ofInt (SI 0 13 j))))]) H := hP
  have hD : va_D A ([(h0, .inr (6, [.ref q1, .ref q2, .ref q3, .ref q4, .null, .null, .null, .null])), (q1, .inl (cyI, 24, .inl (fun j : Nat => Int32.ofInt (SI 0 10 j)))), (q2, .inl (cyI, 3, .inl (fun j : Nat => Int32.ofInt (SI 0 11 j)))), (q3, .inl (cyI, 3, .inl (upd (upd (upd (fun _ : Nat => (0 : Int32)) 0 (-5)) 1 (-5)) 2 (-5)))), (q4, .inl (cyI, 3, .inl (fun j : Nat => Int32.ofInt (SI 0 13 j))))]) := hD
  refine lv_aload_n hx hb dkX6_54 rfl (lv_at hl 1 rfl) ?_
  refine lv_iconst (v := 3) hx hb dkX6_55 (by decide) ?_
  refine nw_arr (atype := .int) (ty := .int) (a0 := (3, .inl (fun j : Nat => Int32.ofInt (SI 0 14 j)))) hx hb (hts _ (GW_in (i := 54) (w := .arrayClass .int) (by decide +kernel))) rfl hK hP hD hS hA 1 rfl (fun C h => by cases h) (fun cA => by first | rfl | exact congrArg (arrV cA 3) (funext fun j => rfl)) (by decide) (by decide) (by decide) (Nat.le_of_ble_eq_true rfl) (Nat.le_of_ble_eq_true rfl) dkX6_56 (fun q5 H hP hD hS => ?_)
  have hP : va_P (dC, dI) vwCl ([(h0, .inr (6, [.ref q1, .ref q2, .ref q3, .ref q4, .null, .null, .null, .null])), (q1, .inl (cyI, 24, .inl (fun j : Nat => Int32.ofInt (SI 0 10 j)))), (q2, .inl (cyI, 3, .inl (fun j : Nat => Int32.ofInt (SI 0 11 j)))), (q3, .inl (cyI, 3, .inl (upd (upd (upd (fun _ : Nat => (0 : Int32)) 0 (-5)) 1 (-5)) 2 (-5)))), (q4, .inl (cyI, 3, .inl (fun j : Nat => Int32.ofInt (SI 0 13 j)))), (q5, .inl (cyI, 3, .inl (fun j : Nat => Int32.ofInt (SI 0 14 j))))]) H := hP
  have hD : va_D A ([(h0, .inr (6, [.ref q1, .ref q2, .ref q3, .ref q4, .null, .null, .null, .null])), (q1, .inl (cyI, 24, .inl (fun j : Nat => Int32.ofInt (SI 0 10 j)))), (q2, .inl (cyI, 3, .inl (fun j : Nat => Int32.ofInt (SI 0 11 j)))), (q3, .inl (cyI, 3, .inl (upd (upd (upd (fun _ : Nat => (0 : Int32)) 0 (-5)) 1 (-5)) 2 (-5)))), (q4, .inl (cyI, 3, .inl (fun j : Nat => Int32.ofInt (SI 0 13 j)))), (q5, .inl (cyI, 3, .inl (fun j : Nat => Int32.ofInt (SI 0 14 j))))]) := hD
  refine va_putF (D := (dC, dI)) (ci := 6) (v := .ref q5) (ty := .array .int) (C := RX6) (T := TX6) (N := 8) hx hb hts (ob_in (c := 9) (by decide) rfl) tyX6 tyX6_ok nmX6 hown hK hP hD hS 0 rfl rfl 4 (by decide) (hts _ (GW_in (i := 84) (w := .fieldLink RX6 24 "TicketWindows$Windows" "coins" "[I") (by decide +kernel))) (fun _ h9 => h9) rfl hin rfl (by decide +kernel) rfl rfl (Nat.le_of_ble_eq_true rfl) dkX6_58 (fun H locs hP hD hS => ?_)
  have hP : va_P (dC, dI) vwCl ([(h0, .inr (6, [.ref q1, .ref q2, .ref q3, .ref q4, .ref q5, .null, .null, .null])), (q1, .inl (cyI, 24, .inl (fun j : Nat => Int32.ofInt (SI 0 10 j)))), (q2, .inl (cyI, 3, .inl (fun j : Nat => Int32.ofInt (SI 0 11 j)))), (q3, .inl (cyI, 3, .inl (upd (upd (upd (fun _ : Nat => (0 : Int32)) 0 (-5)) 1 (-5)) 2 (-5)))), (q4, .inl (cyI, 3, .inl (fun j : Nat => Int32.ofInt (SI 0 13 j)))), (q5, .inl (cyI, 3, .inl (fun j : Nat => Int32.ofInt (SI 0 14 j))))]) H := hP
  have hD : va_D A ([(h0, .inr (6, [.ref q1, .ref q2, .ref q3, .ref q4, .ref q5, .null, .null, .null])), (q1, .inl (cyI, 24, .inl (fun j : Nat => Int32.ofInt (SI 0 10 j)))), (q2, .inl (cyI, 3, .inl (fun j : Nat => Int32.ofInt (SI 0 11 j)))), (q3, .inl (cyI, 3, .inl (upd (upd (upd (fun _ : Nat => (0 : Int32)) 0 (-5)) 1 (-5)) 2 (-5)))), (q4, .inl (cyI, 3, .inl (fun j : Nat => Int32.ofInt (SI 0 13 j)))), (q5, .inl (cyI, 3, .inl (fun j : Nat => Int32.ofInt (SI 0 14 j))))]) := hD
  refine lv_aload_n hx hb dkX6_61 rfl (lv_at hl 1 rfl) ?_
  refine lv_iconst (v := 3) hx hb dkX6_62 (by decide) ?_
  refine nw_arr (atype := .int) (ty := .int) (a0 := (3, .inl (fun j : Nat => Int32.ofInt (SI 0 15 j)))) hx hb (hts _ (GW_in (i := 54) (w := .arrayClass .int) (by decide +kernel))) rfl hK hP hD hS hA 1 rfl (fun C h => by cases h) (fun cA => by first | rfl | exact congrArg (arrV cA 3) (funext fun j => rfl)) (by decide) (by decide) (by decide) (Nat.le_of_ble_eq_true rfl) (Nat.le_of_ble_eq_true rfl) dkX6_63 (fun q6 H hP hD hS => ?_)
  have hP : va_P (dC, dI) vwCl ([(h0, .inr (6, [.ref q1, .ref q2, .ref q3, .ref q4, .ref q5, .null, .null, .null])), (q1, .inl (cyI, 24, .inl (fun j : Nat => Int32.ofInt (SI 0 10 j)))), (q2, .inl (cyI, 3, .inl (fun j : Nat => Int32.ofInt (SI 0 11 j)))), (q3, .inl (cyI, 3, .inl (upd (upd (upd (fun _ : Nat => (0 : Int32)) 0 (-5)) 1 (-5)) 2 (-5)))), (q4, .inl (cyI, 3, .inl (fun j : Nat => Int32.ofInt (SI 0 13 j)))), (q5, .inl (cyI, 3, .inl (fun j : Nat => Int32.ofInt (SI 0 14 j)))), (q6, .inl (cyI, 3, .inl (fun j : Nat => Int32.ofInt (SI 0 15 j))))]) H := hP
  have hD : va_D A ([(h0, .inr (6, [.ref q1, .ref q2, .ref q3, .ref q4, .ref q5, .null, .null, .null])), (q1, .inl (cyI, 24, .inl (fun j : Nat => Int32.ofInt (SI 0 10 j)))), (q2, .inl (cyI, 3, .inl (fun j : Nat => Int32.ofInt (SI 0 11 j)))), (q3, .inl (cyI, 3, .inl (upd (upd (upd (fun _ : Nat => (0 : Int32)) 0 (-5)) 1 (-5)) 2 (-5)))), (q4, .inl (cyI, 3, .inl (fun j : Nat => Int32.ofInt (SI 0 13 j)))), (q5, .inl (cyI, 3, .inl (fun j : Nat => Int32.ofInt (SI 0 14 j)))), (q6, .inl (cyI, 3, .inl (fun j : Nat => Int32.ofInt (SI 0 15 j))))]) := hD
  refine va_putF (D := (dC, dI)) (ci := 6) (v := .ref q6) (ty := .array .int) (C := RX6) (T := TX6) (N := 8) hx hb hts (ob_in (c := 9) (by decide) rfl) tyX6 tyX6_ok nmX6 hown hK hP hD hS 0 rfl rfl 5 (by decide) (hts _ (GW_in (i := 85) (w := .fieldLink RX6 27 "TicketWindows$Windows" "paidCustomers" "[I") (by decide +kernel))) (fun _ h9 => h9) rfl hin rfl (by decide +kernel) rfl rfl (Nat.le_of_ble_eq_true rfl) dkX6_65 (fun H locs hP hD hS => ?_)
  have hP : va_P (dC, dI) vwCl ([(h0, .inr (6, [.ref q1, .ref q2, .ref q3, .ref q4, .ref q5, .ref q6, .null, .null])), (q1, .inl (cyI, 24, .inl (fun j : Nat => Int32.ofInt (SI 0 10 j)))), (q2, .inl (cyI, 3, .inl (fun j : Nat => Int32.ofInt (SI 0 11 j)))), (q3, .inl (cyI, 3, .inl (upd (upd (upd (fun _ : Nat => (0 : Int32)) 0 (-5)) 1 (-5)) 2 (-5)))), (q4, .inl (cyI, 3, .inl (fun j : Nat => Int32.ofInt (SI 0 13 j)))), (q5, .inl (cyI, 3, .inl (fun j : Nat => Int32.ofInt (SI 0 14 j)))), (q6, .inl (cyI, 3, .inl (fun j : Nat => Int32.ofInt (SI 0 15 j))))]) H := hP
  have hD : va_D A ([(h0, .inr (6, [.ref q1, .ref q2, .ref q3, .ref q4, .ref q5, .ref q6, .null, .null])), (q1, .inl (cyI, 24, .inl (fun j : Nat => Int32.ofInt (SI 0 10 j)))), (q2, .inl (cyI, 3, .inl (fun j : Nat => Int32.ofInt (SI 0 11 j)))), (q3, .inl (cyI, 3, .inl (upd (upd (upd (fun _ : Nat => (0 : Int32)) 0 (-5)) 1 (-5)) 2 (-5)))), (q4, .inl (cyI, 3, .inl (fun j : Nat => Int32.ofInt (SI 0 13 j)))), (q5, .inl (cyI, 3, .inl (fun j : Nat => Int32.ofInt (SI 0 14 j)))), (q6, .inl (cyI, 3, .inl (fun j : Nat => Int32.ofInt (SI 0 15 j))))]) := hD
  refine lv_aload_n hx hb dkX6_68 rfl (lv_at hl 1 rfl) ?_
  refine lv_iconst (v := 3) hx hb dkX6_69 (by decide) ?_
  refine nw_arr (atype := .int) (ty := .int) (a0 := (3, .inl (fun j : Nat => Int32.ofInt (SI 0 16 j)))) hx hb (hts _ (GW_in (i := 54) (w := .arrayClass .int) (by decide +kernel))) rfl hK hP hD hS hA 1 rfl (fun C h => by cases h) (fun cA => by first | rfl | exact congrArg (arrV cA 3) (funext fun j => rfl)) (by decide) (by decide) (by decide) (Nat.le_of_ble_eq_true rfl) (Nat.le_of_ble_eq_true rfl) dkX6_70 (fun q7 H hP hD hS => ?_)
  have hP : va_P (dC, dI) vwCl ([(h0, .inr (6, [.ref q1, .ref q2, .ref q3, .ref q4, .ref q5, .ref q6, .null, .null])), (q1, .inl (cyI, 24, .inl (fun j : Nat => Int32.ofInt (SI 0 10 j)))), (q2, .inl (cyI, 3, .inl (fun j : Nat => Int32.ofInt (SI 0 11 j)))), (q3, .inl (cyI, 3, .inl (upd (upd (upd (fun _ : Nat => (0 : Int32)) 0 (-5)) 1 (-5)) 2 (-5)))), (q4, .inl (cyI, 3, .inl (fun j : Nat => Int32.ofInt (SI 0 13 j)))), (q5, .inl (cyI, 3, .inl (fun j : Nat => Int32.ofInt (SI 0 14 j)))), (q6, .inl (cyI, 3, .inl (fun j : Nat => Int32.ofInt (SI 0 15 j)))), (q7, .inl (cyI, 3, .inl (fun j : Nat => Int32.ofInt (SI 0 16 j))))]) H := hP
  have hD : va_D A ([(h0, .inr (6, [.ref q1, .ref q2, .ref q3, .ref q4, .ref q5, .ref q6, .null, .null])), (q1, .inl (cyI, 24, .inl (fun j : Nat => Int32.ofInt (SI 0 10 j)))), (q2, .inl (cyI, 3, .inl (fun j : Nat => Int32.ofInt (SI 0 11 j)))), (q3, .inl (cyI, 3, .inl (upd (upd (upd (fun _ : Nat => (0 : Int32)) 0 (-5)) 1 (-5)) 2 (-5)))), (q4, .inl (cyI, 3, .inl (fun j : Nat => Int32.ofInt (SI 0 13 j)))), (q5, .inl (cyI, 3, .inl (fun j : Nat => Int32.ofInt (SI 0 14 j)))), (q6, .inl (cyI, 3, .inl (fun j : Nat => Int32.ofInt (SI 0 15 j)))), (q7, .inl (cyI, 3, .inl (fun j : Nat => Int32.ofInt (SI 0 16 j))))]) := hD
  refine va_putF (D := (dC, dI)) (ci := 6) (v := .ref q7) (ty := .array .int) (C := RX6) (T := TX6) (N := 8) hx hb hts (ob_in (c := 9) (by decide) rfl) tyX6 tyX6_ok nmX6 hown hK hP hD hS 0 rfl rfl 6 (by decide) (hts _ (GW_in (i := 86) (w := .fieldLink RX6 30 "TicketWindows$Windows" "sentAway" "[I") (by decide +kernel))) (fun _ h9 => h9) rfl hin rfl (by decide +kernel) rfl rfl (Nat.le_of_ble_eq_true rfl) dkX6_72 (fun H locs hP hD hS => ?_)
  have hP : va_P (dC, dI) vwCl ([(h0, .inr (6, [.ref q1, .ref q2, .ref q3, .ref q4, .ref q5, .ref q6, .ref q7, .null])), (q1, .inl (cyI, 24, .inl (fun j : Nat => Int32.ofInt (SI 0 10 j)))), (q2, .inl (cyI, 3, .inl (fun j : Nat => Int32.ofInt (SI 0 11 j)))), (q3, .inl (cyI, 3, .inl (upd (upd (upd (fun _ : Nat => (0 : Int32)) 0 (-5)) 1 (-5)) 2 (-5)))), (q4, .inl (cyI, 3, .inl (fun j : Nat => Int32.ofInt (SI 0 13 j)))), (q5, .inl (cyI, 3, .inl (fun j : Nat => Int32.ofInt (SI 0 14 j)))), (q6, .inl (cyI, 3, .inl (fun j : Nat => Int32.ofInt (SI 0 15 j)))), (q7, .inl (cyI, 3, .inl (fun j : Nat => Int32.ofInt (SI 0 16 j))))]) H := hP
  have hD : va_D A ([(h0, .inr (6, [.ref q1, .ref q2, .ref q3, .ref q4, .ref q5, .ref q6, .ref q7, .null])), (q1, .inl (cyI, 24, .inl (fun j : Nat => Int32.ofInt (SI 0 10 j)))), (q2, .inl (cyI, 3, .inl (fun j : Nat => Int32.ofInt (SI 0 11 j)))), (q3, .inl (cyI, 3, .inl (upd (upd (upd (fun _ : Nat => (0 : Int32)) 0 (-5)) 1 (-5)) 2 (-5)))), (q4, .inl (cyI, 3, .inl (fun j : Nat => Int32.ofInt (SI 0 13 j)))), (q5, .inl (cyI, 3, .inl (fun j : Nat => Int32.ofInt (SI 0 14 j)))), (q6, .inl (cyI, 3, .inl (fun j : Nat => Int32.ofInt (SI 0 15 j)))), (q7, .inl (cyI, 3, .inl (fun j : Nat => Int32.ofInt (SI 0 16 j))))]) := hD
  refine lv_aload_n hx hb dkX6_75 rfl (lv_at hl 1 rfl) ?_
  refine lv_iconst (v := 3) hx hb dkX6_76 (by decide) ?_
  refine nw_arr (atype := .int) (ty := .int) (a0 := (3, .inl (fun j : Nat => Int32.ofInt (SI 0 17 j)))) hx hb (hts _ (GW_in (i := 54) (w := .arrayClass .int) (by decide +kernel))) rfl hK hP hD hS hA 1 rfl (fun C h => by cases h) (fun cA => by first | rfl | exact congrArg (arrV cA 3) (funext fun j => rfl)) (by decide) (by decide) (by decide) (Nat.le_of_ble_eq_true rfl) (Nat.le_of_ble_eq_true rfl) dkX6_77 (fun q8 H hP hD hS => ?_)
  have hP : va_P (dC, dI) vwCl ([(h0, .inr (6, [.ref q1, .ref q2, .ref q3, .ref q4, .ref q5, .ref q6, .ref q7, .null])), (q1, .inl (cyI, 24, .inl (fun j : Nat => Int32.ofInt (SI 0 10 j)))), (q2, .inl (cyI, 3, .inl (fun j : Nat => Int32.ofInt (SI 0 11 j)))), (q3, .inl (cyI, 3, .inl (upd (upd (upd (fun _ : Nat => (0 : Int32)) 0 (-5)) 1 (-5)) 2 (-5)))), (q4, .inl (cyI, 3, .inl (fun j : Nat => Int32.ofInt (SI 0 13 j)))), (q5, .inl (cyI, 3, .inl (fun j : Nat => Int32.ofInt (SI 0 14 j)))), (q6, .inl (cyI, 3, .inl (fun j : Nat => Int32.ofInt (SI 0 15 j)))), (q7, .inl (cyI, 3, .inl (fun j : Nat => Int32.ofInt (SI 0 16 j)))), (q8, .inl (cyI, 3, .inl (fun j : Nat => Int32.ofInt (SI 0 17 j))))]) H := hP
  have hD : va_D A ([(h0, .inr (6, [.ref q1, .ref q2, .ref q3, .ref q4, .ref q5, .ref q6, .ref q7, .null])), (q1, .inl (cyI, 24, .inl (fun j : Nat => Int32.ofInt (SI 0 10 j)))), (q2, .inl (cyI, 3, .inl (fun j : Nat => Int32.ofInt (SI 0 11 j)))), (q3, .inl (cyI, 3, .inl (upd (upd (upd (fun _ : Nat => (0 : Int32)) 0 (-5)) 1 (-5)) 2 (-5)))), (q4, .inl (cyI, 3, .inl (fun j : Nat => Int32.ofInt (SI 0 13 j)))), (q5, .inl (cyI, 3, .inl (fun j : Nat => Int32.ofInt (SI 0 14 j)))), (q6, .inl (cyI, 3, .inl (fun j : Nat => Int32.ofInt (SI 0 15 j)))), (q7, .inl (cyI, 3, .inl (fun j : Nat => Int32.ofInt (SI 0 16 j)))), (q8, .inl (cyI, 3, .inl (fun j : Nat => Int32.ofInt (SI 0 17 j))))]) := hD
  refine va_putF (D := (dC, dI)) (ci := 6) (v := .ref q8) (ty := .array .int) (C := RX6) (T := TX6) (N := 8) hx hb hts (ob_in (c := 9) (by decide) rfl) tyX6 tyX6_ok nmX6 hown hK hP hD hS 0 rfl rfl 7 (by decide) (hts _ (GW_in (i := 87) (w := .fieldLink RX6 33 "TicketWindows$Windows" "latestReason" "[I") (by decide +kernel))) (fun _ h9 => h9) rfl hin rfl (by decide +kernel) rfl rfl (Nat.le_of_ble_eq_true rfl) dkX6_79 (fun H locs hP hD hS => ?_)
  have hP : va_P (dC, dI) vwCl ([(h0, .inr (6, [.ref q1, .ref q2, .ref q3, .ref q4, .ref q5, .ref q6, .ref q7, .ref q8])), (q1, .inl (cyI, 24, .inl (fun j : Nat => Int32.ofInt (SI 0 10 j)))), (q2, .inl (cyI, 3, .inl (fun j : Nat => Int32.ofInt (SI 0 11 j)))), (q3, .inl (cyI, 3, .inl (upd (upd (upd (fun _ : Nat => (0 : Int32)) 0 (-5)) 1 (-5)) 2 (-5)))), (q4, .inl (cyI, 3, .inl (fun j : Nat => Int32.ofInt (SI 0 13 j)))), (q5, .inl (cyI, 3, .inl (fun j : Nat => Int32.ofInt (SI 0 14 j)))), (q6, .inl (cyI, 3, .inl (fun j : Nat => Int32.ofInt (SI 0 15 j)))), (q7, .inl (cyI, 3, .inl (fun j : Nat => Int32.ofInt (SI 0 16 j)))), (q8, .inl (cyI, 3, .inl (fun j : Nat => Int32.ofInt (SI 0 17 j))))]) H := hP
  have hD : va_D A ([(h0, .inr (6, [.ref q1, .ref q2, .ref q3, .ref q4, .ref q5, .ref q6, .ref q7, .ref q8])), (q1, .inl (cyI, 24, .inl (fun j : Nat => Int32.ofInt (SI 0 10 j)))), (q2, .inl (cyI, 3, .inl (fun j : Nat => Int32.ofInt (SI 0 11 j)))), (q3, .inl (cyI, 3, .inl (upd (upd (upd (fun _ : Nat => (0 : Int32)) 0 (-5)) 1 (-5)) 2 (-5)))), (q4, .inl (cyI, 3, .inl (fun j : Nat => Int32.ofInt (SI 0 13 j)))), (q5, .inl (cyI, 3, .inl (fun j : Nat => Int32.ofInt (SI 0 14 j)))), (q6, .inl (cyI, 3, .inl (fun j : Nat => Int32.ofInt (SI 0 15 j)))), (q7, .inl (cyI, 3, .inl (fun j : Nat => Int32.ofInt (SI 0 16 j)))), (q8, .inl (cyI, 3, .inl (fun j : Nat => Int32.ofInt (SI 0 17 j))))]) := hD
  have hf12 : (upd (upd (upd (fun _ : Nat => (0 : Int32)) 0 (-5)) 1 (-5)) 2 (-5)) = (fun j : Nat => Int32.ofInt (SI 0 12 j)) := by
    funext j
    rcases Nat.lt_or_ge j 3 with h | h
    · rcases (show j = 0 ∨ j = 1 ∨ j = 2 by omega) with rfl | rfl | rfl <;> rfl
    · unfold upd
      rw [if_neg (by omega), if_neg (by omega), if_neg (by omega)]
      have e : SI 0 12 (j : Int) = 0 := by
        simp only [SI, Nat.reduceEqDiff, ↓reduceIte]
        rw [if_neg (by omega)]
      rw [e]
      rfl
  rw [hf12] at hP hD
  have hP9 : va_P (dC, dI) vwCl (bk cyC cyI cyO [9, 10, 11, 12, 13, 14, 15, 16, 17] (fun c => [h0, q1, q2, q3, q4, q5, q6, q7, q8].getD (c - 9) 0)) H := hP
  have hD9 : va_D A (bk cyC cyI cyO [9, 10, 11, 12, 13, 14, 15, 16, 17] (fun c => [h0, q1, q2, q3, q4, q5, q6, q7, q8].getD (c - 9) 0)) := hD
  refine W.widen (k := 8) (n := 45) (Nat.le_of_ble_eq_true rfl) (Nat.le_of_ble_eq_true rfl) ?_
  exact W.vret hx hb hr (fun t ht hW => ⟨⟨(fun c => [h0, q1, q2, q3, q4, q5, q6, q7, q8].getD (c - 9) 0), rfl, trivial, by rw [ht]; exact hP9, hAe ▸ hD9, rfl⟩, hAe ▸ hS.F ht⟩) (hAe ▸ hS.2.2) dkX6_82
theorem dkX4_0 : decode cX4_init 0 = .ok (.aload_n 0, 1) := by decide +kernel
theorem dkX4_1 : decode cX4_init 1 = .ok (.invokespecial 3, 3) := by decide +kernel
theorem dkX4_4 : decode cX4_init 4 = .ok (.aload_n 0, 1) := by decide +kernel
theorem dkX4_5 : decode cX4_init 5 = .ok (.bipush 60, 2) := by decide +kernel
theorem dkX4_7 : decode cX4_init 7 = .ok (.newarray .char, 2) := by decide +kernel
theorem dkX4_9 : decode cX4_init 9 = .ok (.putfield 9, 3) := by decide +kernel
theorem dkX4_12 : decode cX4_init 12 = .ok (.aload_n 0, 1) := by decide +kernel
theorem dkX4_13 : decode cX4_init 13 = .ok (.bipush 20, 2) := by decide +kernel
theorem dkX4_15 : decode cX4_init 15 = .ok (.newarray .char, 2) := by decide +kernel
theorem dkX4_17 : decode cX4_init 17 = .ok (.putfield 15, 3) := by decide +kernel
theorem dkX4_20 : decode cX4_init 20 = .ok (.aload_n 0, 1) := by decide +kernel
theorem dkX4_21 : decode cX4_init 21 = .ok (.bipush 20, 2) := by decide +kernel
theorem dkX4_23 : decode cX4_init 23 = .ok (.newarray .int, 2) := by decide +kernel
theorem dkX4_25 : decode cX4_init 25 = .ok (.putfield 18, 3) := by decide +kernel
theorem dkX4_28 : decode cX4_init 28 = .ok (.aload_n 0, 1) := by decide +kernel
theorem dkX4_29 : decode cX4_init 29 = .ok (.bipush 20, 2) := by decide +kernel
theorem dkX4_31 : decode cX4_init 31 = .ok (.newarray .int, 2) := by decide +kernel
theorem dkX4_33 : decode cX4_init 33 = .ok (.putfield 22, 3) := by decide +kernel
theorem dkX4_36 : decode cX4_init 36 = .ok (.return_, 1) := by decide +kernel
set_option maxHeartbeats 8000000 in
set_option maxRecDepth 100000 in
theorem k_Orders (l : Launch) (dC : Nat → ClassId) (dI : Nat → Nat → Nat) (cyC cyI cyO : ClassId) (rho : Nat → Nat → Nat) (Bd Ln : Nat) (xs : Int → Int) (h0 sz : Nat) : Met l yX4_init (.code yX4_init cX4_init 1 none :: GW) ({ frames := 1, cells := 4, slots := 120, locals := 12 }) (va_Pc [.ref h0] (fun U => U.heap.size = sz ∧ ((Bd ≤ h0 ∧ Bd ≤ sz) ∧ (∀ c, 36 ≤ c → c < 41 → ¬ Bd ≤ rho 0 c)) ∧ va_P (dC, dI) vwCl [(h0, .inr (4, [.int 0, .int 0, .null, .null, .null, .null, .int 0]))] U.heap ∧ St0 dC dI cyC cyI cyO rho (fun q => Bd ≤ q) Ln xs U)) (va_Qv (fun _ : Nat → Nat => True) (fun (ad : Nat → Nat) t => va_P (dC, dI) vwCl (bk cyC cyI cyO [25, 29, 26, 27, 28] ad) t.heap ∧ va_D (va_A [(h0, .inr (4, [.int 0, .int 0, .null, .null, .null, .null, .int 0]))] sz) (bk cyC cyI cyO [25, 29, 26, 27, 28] ad) ∧ ad 25 = h0) (va_A [(h0, .inr (4, [.int 0, .int 0, .null, .null, .null, .null, .int 0]))] sz)) 4 120 (va_A [(h0, .inr (4, [.int 0, .int 0, .null, .null, .null, .null, .int 0]))] sz) := by
  refine Met.ofW (cc := cX4_init) (maxL := 1) (ret := none) (by decide) rfl ?_
  intro p e s m args below meth c s₁ B hml hv
  obtain ⟨rfl, hsz, ⟨⟨hBh, hBs⟩, hro⟩, hP, hSt⟩ := hv
  have hx := B.exec
  have hb := B.bytes
  have hr := B.returns
  have hts0 := atoms_spec (ws := .code yX4_init cX4_init 1 none :: GW) B.pre
  have hts : ∀ w ∈ GW, w.before _ s = true := fun w hw => hts0 w (List.mem_cons_of_mem _ hw)
  have hown : s.vm.findClass RX4 = some m.cls := findClass_of_methodNamed B.named
  have hlocks := B.notSynchronized
  have hin : meth.name = "<init>" := (name_of_methodNamed B.named B.method).1
  have hK := hSt.1
  subst hsz
  have hD : va_D (va_A [(h0, .inr (4, [.int 0, .int 0, .null, .null, .null, .null, .int 0]))] s.heap.size) [(h0, .inr (4, [.int 0, .int 0, .null, .null, .null, .null, .int 0]))] := D_nd.mpr ⟨by simp, fun q hq => by
    rw [List.mem_singleton] at hq
    rw [hq]
    exact Or.inl ⟨0, _, rfl⟩⟩
  have hAB0 : ∀ q, va_A [(h0, .inr (4, [.int 0, .int 0, .null, .null, .null, .null, .int 0]))] s.heap.size q → Bd ≤ q := fun q h => by
    rcases h with ⟨k, e, h⟩ | h
    · have h1 := List.mem_of_getElem? h
      rw [List.mem_singleton] at h1
      cases h1
      exact hBh
    · exact Nat.le_trans hBs h
  have hA0 : ∀ q : Nat, s.heap.size ≤ q → va_A [(h0, .inr (4, [.int 0, .int 0, .null, .null, .null, .null, .int 0]))] s.heap.size q := fun q h => Or.inr h
  generalize hAe : va_A [(h0, .inr (4, [.int 0, .int 0, .null, .null, .null, .null, .int 0]))] s.heap.size = A at hD hAB0 hA0 ⊢
  have hAB := hAB0
  have hA := hA0
  have hSB : ∀ {H : Heap} {locs : List Loc}, va_S A s.heap H locs → va_S (fun q => Bd ≤ q) s.heap H locs := fun h => ⟨h.1, fun q h1 h2 => h.2.1 q h1 (fun z => h2 (hAB q z)), fun l hl => hAB _ (h.2.2 l hl)⟩
  have hS : va_S A s.heap s.heap [] := va_S.rf
  have hl := lv_entry ([.ref h0]) (n := 1) (Nat.le_of_ble_eq_true rfl)
  rw [lg_entry_eq]
  generalize (lg_sl ([.ref h0]) ++ List.replicate (1 - (lg_sl ([.ref h0])).length) Slot.unset).toArray = ls at hl ⊢
  have hl : lv_has ls 1 [(0, .ref h0)] := hl
  have hP : va_P (dC, dI) vwCl [(h0, .inr (4, [.int 0, .int 0, .null, .null, .null, .null, .int 0]))] s.heap := hP
  refine lv_aload_n hx hb dkX4_0 rfl (lv_at hl 0 rfl) ?_
  refine W.objInit hx hb hown (hts _ (GW_in (i := 186) (w := .methodLink RX4 3 objectInit) (by decide +kernel))) (hts _ (GW_in (i := 31) (w := .instanceMethod objectInit) (by decide +kernel))) (hts _ (GW_in (i := 32) (w := .code objectInit ⟨#[0xb1]⟩ 1 none) (by decide +kernel))) rfl (by rw [hml]; exact hl.1) rfl dkX4_1 (Nat.le_of_ble_eq_true rfl) (Nat.le_of_ble_eq_true rfl) ?_
  refine W.eq (g2 := F0 m 4 ls []) rfl ?_
  refine lv_aload_n hx hb dkX4_4 rfl (lv_at hl 0 rfl) ?_
  refine lv_bipush (v := 60) hx hb dkX4_5 (by decide) ?_
  refine nw_arr (atype := .char) (ty := .char) (a0 := (60, .inl (fun j : Nat => Int32.ofInt (SI 0 29 j)))) hx hb (hts _ (GW_in (i := 207) (w := .arrayClass .char) (by decide +kernel))) rfl hK hP hD hS hA 0 rfl (fun C h => by cases h) (fun cA => by first | rfl | exact congrArg (arrV cA 60) (funext fun j => rfl)) (by decide) (by decide) (by decide) (Nat.le_of_ble_eq_true rfl) (Nat.le_of_ble_eq_true rfl) dkX4_7 (fun q1 H hP hD hS => ?_)
  have hP : va_P (dC, dI) vwCl ([(h0, .inr (4, [.int 0, .int 0, .null, .null, .null, .null, .int 0])), (q1, .inl (cyC, 60, .inl (fun j : Nat => Int32.ofInt (SI 0 29 j))))]) H := hP
  have hD : va_D A ([(h0, .inr (4, [.int 0, .int 0, .null, .null, .null, .null, .int 0])), (q1, .inl (cyC, 60, .inl (fun j : Nat => Int32.ofInt (SI 0 29 j))))]) := hD
  refine va_putF (D := (dC, dI)) (ci := 4) (v := .ref q1) (ty := .array .char) (C := RX4) (T := TX4) (N := 7) hx hb hts (ob_in (c := 25) (by decide) rfl) tyX4 tyX4_ok nmX4 hown hK hP hD hS 0 rfl rfl 5 (by decide) (hts _ (GW_in (i := 191) (w := .fieldLink RX4 9 "TicketWindows$Orders" "text" "[C") (by decide +kernel))) (fun _ h9 => h9) rfl hin rfl (by decide +kernel) rfl rfl (Nat.le_of_ble_eq_true rfl) dkX4_9 (fun H locs hP hD hS => ?_)
  have hP : va_P (dC, dI) vwCl ([(h0, .inr (4, [.int 0, .int 0, .null, .null, .null, .ref q1, .int 0])), (q1, .inl (cyC, 60, .inl (fun j : Nat => Int32.ofInt (SI 0 29 j))))]) H := hP
  have hD : va_D A ([(h0, .inr (4, [.int 0, .int 0, .null, .null, .null, .ref q1, .int 0])), (q1, .inl (cyC, 60, .inl (fun j : Nat => Int32.ofInt (SI 0 29 j))))]) := hD
  refine lv_aload_n hx hb dkX4_12 rfl (lv_at hl 0 rfl) ?_
  refine lv_bipush (v := 20) hx hb dkX4_13 (by decide) ?_
  refine nw_arr (atype := .char) (ty := .char) (a0 := (20, .inl (fun j : Nat => Int32.ofInt (SI 0 26 j)))) hx hb (hts _ (GW_in (i := 207) (w := .arrayClass .char) (by decide +kernel))) rfl hK hP hD hS hA 0 rfl (fun C h => by cases h) (fun cA => by first | rfl | exact congrArg (arrV cA 20) (funext fun j => rfl)) (by decide) (by decide) (by decide) (Nat.le_of_ble_eq_true rfl) (Nat.le_of_ble_eq_true rfl) dkX4_15 (fun q2 H hP hD hS => ?_)
  have hP : va_P (dC, dI) vwCl ([(h0, .inr (4, [.int 0, .int 0, .null, .null, .null, .ref q1, .int 0])), (q1, .inl (cyC, 60, .inl (fun j : Nat => Int32.ofInt (SI 0 29 j)))), (q2, .inl (cyC, 20, .inl (fun j : Nat => Int32.ofInt (SI 0 26 j))))]) H := hP
  have hD : va_D A ([(h0, .inr (4, [.int 0, .int 0, .null, .null, .null, .ref q1, .int 0])), (q1, .inl (cyC, 60, .inl (fun j : Nat => Int32.ofInt (SI 0 29 j)))), (q2, .inl (cyC, 20, .inl (fun j : Nat => Int32.ofInt (SI 0 26 j))))]) := hD
  refine va_putF (D := (dC, dI)) (ci := 4) (v := .ref q2) (ty := .array .char) (C := RX4) (T := TX4) (N := 7) hx hb hts (ob_in (c := 25) (by decide) rfl) tyX4 tyX4_ok nmX4 hown hK hP hD hS 0 rfl rfl 2 (by decide) (hts _ (GW_in (i := 188) (w := .fieldLink RX4 15 "TicketWindows$Orders" "sign" "[C") (by decide +kernel))) (fun _ h9 => h9) rfl hin rfl (by decide +kernel) rfl rfl (Nat.le_of_ble_eq_true rfl) dkX4_17 (fun H locs hP hD hS => ?_)
  have hP : va_P (dC, dI) vwCl ([(h0, .inr (4, [.int 0, .int 0, .ref q2, .null, .null, .ref q1, .int 0])), (q1, .inl (cyC, 60, .inl (fun j : Nat => Int32.ofInt (SI 0 29 j)))), (q2, .inl (cyC, 20, .inl (fun j : Nat => Int32.ofInt (SI 0 26 j))))]) H := hP
  have hD : va_D A ([(h0, .inr (4, [.int 0, .int 0, .ref q2, .null, .null, .ref q1, .int 0])), (q1, .inl (cyC, 60, .inl (fun j : Nat => Int32.ofInt (SI 0 29 j)))), (q2, .inl (cyC, 20, .inl (fun j : Nat => Int32.ofInt (SI 0 26 j))))]) := hD
  refine lv_aload_n hx hb dkX4_20 rfl (lv_at hl 0 rfl) ?_
  refine lv_bipush (v := 20) hx hb dkX4_21 (by decide) ?_
  refine nw_arr (atype := .int) (ty := .int) (a0 := (20, .inl (fun j : Nat => Int32.ofInt (SI 0 27 j)))) hx hb (hts _ (GW_in (i := 54) (w := .arrayClass .int) (by decide +kernel))) rfl hK hP hD hS hA 1 rfl (fun C h => by cases h) (fun cA => by first | rfl | exact congrArg (arrV cA 20) (funext fun j => rfl)) (by decide) (by decide) (by decide) (Nat.le_of_ble_eq_true rfl) (Nat.le_of_ble_eq_true rfl) dkX4_23 (fun q3 H hP hD hS => ?_)
  have hP : va_P (dC, dI) vwCl ([(h0, .inr (4, [.int 0, .int 0, .ref q2, .null, .null, .ref q1, .int 0])), (q1, .inl (cyC, 60, .inl (fun j : Nat => Int32.ofInt (SI 0 29 j)))), (q2, .inl (cyC, 20, .inl (fun j : Nat => Int32.ofInt (SI 0 26 j)))), (q3, .inl (cyI, 20, .inl (fun j : Nat => Int32.ofInt (SI 0 27 j))))]) H := hP
  have hD : va_D A ([(h0, .inr (4, [.int 0, .int 0, .ref q2, .null, .null, .ref q1, .int 0])), (q1, .inl (cyC, 60, .inl (fun j : Nat => Int32.ofInt (SI 0 29 j)))), (q2, .inl (cyC, 20, .inl (fun j : Nat => Int32.ofInt (SI 0 26 j)))), (q3, .inl (cyI, 20, .inl (fun j : Nat => Int32.ofInt (SI 0 27 j))))]) := hD
  refine va_putF (D := (dC, dI)) (ci := 4) (v := .ref q3) (ty := .array .int) (C := RX4) (T := TX4) (N := 7) hx hb hts (ob_in (c := 25) (by decide) rfl) tyX4 tyX4_ok nmX4 hown hK hP hD hS 0 rfl rfl 3 (by decide) (hts _ (GW_in (i := 189) (w := .fieldLink RX4 18 "TicketWindows$Orders" "window" "[I") (by decide +kernel))) (fun _ h9 => h9) rfl hin rfl (by decide +kernel) rfl rfl (Nat.le_of_ble_eq_true rfl) dkX4_25 (fun H locs hP hD hS => ?_)
  have hP : va_P (dC, dI) vwCl ([(h0, .inr (4, [.int 0, .int 0, .ref q2, .ref q3, .null, .ref q1, .int 0])), (q1, .inl (cyC, 60, .inl (fun j : Nat => Int32.ofInt (SI 0 29 j)))), (q2, .inl (cyC, 20, .inl (fun j : Nat => Int32.ofInt (SI 0 26 j)))), (q3, .inl (cyI, 20, .inl (fun j : Nat => Int32.ofInt (SI 0 27 j))))]) H := hP
  have hD : va_D A ([(h0, .inr (4, [.int 0, .int 0, .ref q2, .ref q3, .null, .ref q1, .int 0])), (q1, .inl (cyC, 60, .inl (fun j : Nat => Int32.ofInt (SI 0 29 j)))), (q2, .inl (cyC, 20, .inl (fun j : Nat => Int32.ofInt (SI 0 26 j)))), (q3, .inl (cyI, 20, .inl (fun j : Nat => Int32.ofInt (SI 0 27 j))))]) := hD
  refine lv_aload_n hx hb dkX4_28 rfl (lv_at hl 0 rfl) ?_
  refine lv_bipush (v := 20) hx hb dkX4_29 (by decide) ?_
  refine nw_arr (atype := .int) (ty := .int) (a0 := (20, .inl (fun j : Nat => Int32.ofInt (SI 0 28 j)))) hx hb (hts _ (GW_in (i := 54) (w := .arrayClass .int) (by decide +kernel))) rfl hK hP hD hS hA 1 rfl (fun C h => by cases h) (fun cA => by first | rfl | exact congrArg (arrV cA 20) (funext fun j => rfl)) (by decide) (by decide) (by decide) (Nat.le_of_ble_eq_true rfl) (Nat.le_of_ble_eq_true rfl) dkX4_31 (fun q4 H hP hD hS => ?_)
  have hP : va_P (dC, dI) vwCl ([(h0, .inr (4, [.int 0, .int 0, .ref q2, .ref q3, .null, .ref q1, .int 0])), (q1, .inl (cyC, 60, .inl (fun j : Nat => Int32.ofInt (SI 0 29 j)))), (q2, .inl (cyC, 20, .inl (fun j : Nat => Int32.ofInt (SI 0 26 j)))), (q3, .inl (cyI, 20, .inl (fun j : Nat => Int32.ofInt (SI 0 27 j)))), (q4, .inl (cyI, 20, .inl (fun j : Nat => Int32.ofInt (SI 0 28 j))))]) H := hP
  have hD : va_D A ([(h0, .inr (4, [.int 0, .int 0, .ref q2, .ref q3, .null, .ref q1, .int 0])), (q1, .inl (cyC, 60, .inl (fun j : Nat => Int32.ofInt (SI 0 29 j)))), (q2, .inl (cyC, 20, .inl (fun j : Nat => Int32.ofInt (SI 0 26 j)))), (q3, .inl (cyI, 20, .inl (fun j : Nat => Int32.ofInt (SI 0 27 j)))), (q4, .inl (cyI, 20, .inl (fun j : Nat => Int32.ofInt (SI 0 28 j))))]) := hD
  refine va_putF (D := (dC, dI)) (ci := 4) (v := .ref q4) (ty := .array .int) (C := RX4) (T := TX4) (N := 7) hx hb hts (ob_in (c := 25) (by decide) rfl) tyX4 tyX4_ok nmX4 hown hK hP hD hS 0 rfl rfl 4 (by decide) (hts _ (GW_in (i := 190) (w := .fieldLink RX4 22 "TicketWindows$Orders" "number" "[I") (by decide +kernel))) (fun _ h9 => h9) rfl hin rfl (by decide +kernel) rfl rfl (Nat.le_of_ble_eq_true rfl) dkX4_33 (fun H locs hP hD hS => ?_)
  have hP : va_P (dC, dI) vwCl ([(h0, .inr (4, [.int 0, .int 0, .ref q2, .ref q3, .ref q4, .ref q1, .int 0])), (q1, .inl (cyC, 60, .inl (fun j : Nat => Int32.ofInt (SI 0 29 j)))), (q2, .inl (cyC, 20, .inl (fun j : Nat => Int32.ofInt (SI 0 26 j)))), (q3, .inl (cyI, 20, .inl (fun j : Nat => Int32.ofInt (SI 0 27 j)))), (q4, .inl (cyI, 20, .inl (fun j : Nat => Int32.ofInt (SI 0 28 j))))]) H := hP
  have hD : va_D A ([(h0, .inr (4, [.int 0, .int 0, .ref q2, .ref q3, .ref q4, .ref q1, .int 0])), (q1, .inl (cyC, 60, .inl (fun j : Nat => Int32.ofInt (SI 0 29 j)))), (q2, .inl (cyC, 20, .inl (fun j : Nat => Int32.ofInt (SI 0 26 j)))), (q3, .inl (cyI, 20, .inl (fun j : Nat => Int32.ofInt (SI 0 27 j)))), (q4, .inl (cyI, 20, .inl (fun j : Nat => Int32.ofInt (SI 0 28 j))))]) := hD
  have hP9 : va_P (dC, dI) vwCl (bk cyC cyI cyO [25, 29, 26, 27, 28] (fun c => [h0, q2, q3, q4, q1].getD (c - 25) 0)) H := hP
  have hD9 : va_D A (bk cyC cyI cyO [25, 29, 26, 27, 28] (fun c => [h0, q2, q3, q4, q1].getD (c - 25) 0)) := hD
  refine W.widen (k := 4) (n := 120) (Nat.le_of_ble_eq_true rfl) (Nat.le_of_ble_eq_true rfl) ?_
  exact W.vret hx hb hr (fun t ht hW => ⟨⟨(fun c => [h0, q2, q3, q4, q1].getD (c - 25) 0), rfl, trivial, by rw [ht]; exact hP9, hAe ▸ hD9, rfl⟩, hAe ▸ hS.F ht⟩) (hAe ▸ hS.2.2) dkX4_36
end
section
theorem dkX3_0 : decode cX3_init 0 = .ok (.aload_n 0, 1) := by decide +kernel
theorem dkX3_1 : decode cX3_init 1 = .ok (.invokespecial 3, 3) := by decide +kernel
theorem dkX3_4 : decode cX3_init 4 = .ok (.aload_n 0, 1) := by decide +kernel
theorem dkX3_5 : decode cX3_init 5 = .ok (.iconst 1, 1) := by decide +kernel
theorem dkX3_6 : decode cX3_init 6 = .ok (.putfield 9, 3) := by decide +kernel
theorem dkX3_9 : decode cX3_init 9 = .ok (.aload_n 0, 1) := by decide +kernel
theorem dkX3_10 : decode cX3_init 10 = .ok (.iconst 3, 1) := by decide +kernel
theorem dkX3_11 : decode cX3_init 11 = .ok (.newarray .int, 2) := by decide +kernel
theorem dkX3_13 : decode cX3_init 13 = .ok (.putfield 15, 3) := by decide +kernel
theorem dkX3_16 : decode cX3_init 16 = .ok (.iconst 0, 1) := by decide +kernel
theorem dkX3_17 : decode cX3_init 17 = .ok (.istore_n 1, 1) := by decide +kernel
theorem dkX3_18 : decode cX3_init 18 = .ok (.iload_n 1, 1) := by decide +kernel
theorem dkX3_19 : decode cX3_init 19 = .ok (.iconst 3, 1) := by decide +kernel
theorem dkX3_20 : decode cX3_init 20 = .ok (.if_icmp .ge 20, 3) := by decide +kernel
theorem dkX3_23 : decode cX3_init 23 = .ok (.aload_n 0, 1) := by decide +kernel
theorem dkX3_24 : decode cX3_init 24 = .ok (.getfield 15, 3) := by decide +kernel
theorem dkX3_27 : decode cX3_init 27 = .ok (.iload_n 1, 1) := by decide +kernel
theorem dkX3_28 : decode cX3_init 28 = .ok (.getstatic 19, 3) := by decide +kernel
theorem dkX3_31 : decode cX3_init 31 = .ok (.iload_n 1, 1) := by decide +kernel
theorem dkX3_32 : decode cX3_init 32 = .ok (.iaload, 1) := by decide +kernel
theorem dkX3_33 : decode cX3_init 33 = .ok (.iastore, 1) := by decide +kernel
theorem dkX3_34 : decode cX3_init 34 = .ok (.iinc 1 1, 3) := by decide +kernel
theorem dkX3_37 : decode cX3_init 37 = .ok (.goto (-19), 3) := by decide +kernel
theorem dkX3_40 : decode cX3_init 40 = .ok (.aload_n 0, 1) := by decide +kernel
theorem dkX3_41 : decode cX3_init 41 = .ok (.new 22, 3) := by decide +kernel
theorem dkX3_44 : decode cX3_init 44 = .ok (.dup, 1) := by decide +kernel
theorem dkX3_45 : decode cX3_init 45 = .ok (.invokespecial 24, 3) := by decide +kernel
theorem dkX3_48 : decode cX3_init 48 = .ok (.putfield 25, 3) := by decide +kernel
theorem dkX3_51 : decode cX3_init 51 = .ok (.aload_n 0, 1) := by decide +kernel
theorem dkX3_52 : decode cX3_init 52 = .ok (.new 29, 3) := by decide +kernel
theorem dkX3_55 : decode cX3_init 55 = .ok (.dup, 1) := by decide +kernel
theorem dkX3_56 : decode cX3_init 56 = .ok (.invokespecial 31, 3) := by decide +kernel
theorem dkX3_59 : decode cX3_init 59 = .ok (.putfield 32, 3) := by decide +kernel
theorem dkX3_62 : decode cX3_init 62 = .ok (.aload_n 0, 1) := by decide +kernel
theorem dkX3_63 : decode cX3_init 63 = .ok (.new 36, 3) := by decide +kernel
theorem dkX3_66 : decode cX3_init 66 = .ok (.dup, 1) := by decide +kernel
theorem dkX3_67 : decode cX3_init 67 = .ok (.invokespecial 38, 3) := by decide +kernel
theorem dkX3_70 : decode cX3_init 70 = .ok (.putfield 39, 3) := by decide +kernel
theorem dkX3_73 : decode cX3_init 73 = .ok (.aload_n 0, 1) := by decide +kernel
theorem dkX3_74 : decode cX3_init 74 = .ok (.new 43, 3) := by decide +kernel
theorem dkX3_77 : decode cX3_init 77 = .ok (.dup, 1) := by decide +kernel
theorem dkX3_78 : decode cX3_init 78 = .ok (.invokespecial 45, 3) := by decide +kernel
theorem dkX3_81 : decode cX3_init 81 = .ok (.putfield 46, 3) := by decide +kernel
theorem dkX3_84 : decode cX3_init 84 = .ok (.aload_n 0, 1) := by decide +kernel
theorem dkX3_85 : decode cX3_init 85 = .ok (.new 50, 3) := by decide +kernel
theorem dkX3_88 : decode cX3_init 88 = .ok (.dup, 1) := by decide +kernel
theorem dkX3_89 : decode cX3_init 89 = .ok (.invokespecial 52, 3) := by decide +kernel
theorem dkX3_92 : decode cX3_init 92 = .ok (.putfield 53, 3) := by decide +kernel
theorem dkX3_95 : decode cX3_init 95 = .ok (.return_, 1) := by decide +kernel
set_option maxHeartbeats 8000000 in
set_option maxRecDepth 100000 in
theorem k_Office (l : Launch) (dC : Nat → ClassId) (dI : Nat → Nat → Nat) (cyC cyI cyO : ClassId) (rho : Nat → Nat → Nat) (Bd Ln : Nat) (xs : Int → Int) (h0 sz : Nat) : Met l yX3_init (.code yX3_init cX3_init 2 none :: GW) ({ frames := 2, cells := 22, slots := 1711, locals := 33 }) (va_Pc [.ref h0] (fun U => U.heap.size = sz ∧ ((Bd ≤ h0 ∧ Bd ≤ sz) ∧ (∀ c, 36 ≤ c → c < 41 → ¬ Bd ≤ rho 0 c)) ∧ va_P (dC, dI) vwCl [(h0, .inr (3, [.int 0, .int 0, .null, .null, .null, .null, .null, .null, .int 0, .int 0, .int 0]))] U.heap ∧ St0 dC dI cyC cyI cyO rho (fun q => Bd ≤ q) Ln xs U)) (va_Qv (fun _ : Nat → Nat => True) (fun (ad : Nat → Nat) t => va_P (dC, dI) vwCl (bk cyC cyI cyO [0, 1, 2, 3, 4, 5, 6, 7, 8, 9, 10, 11, 12, 13, 14, 15, 16, 17, 18, 19, 20, 21, 22] ad) t.heap ∧ va_D (va_A [(h0, .inr (3, [.int 0, .int 0, .null, .null, .null, .null, .null, .null, .int 0, .int 0, .int 0]))] sz) (bk cyC cyI cyO [0, 1, 2, 3, 4, 5, 6, 7, 8, 9, 10, 11, 12, 13, 14, 15, 16, 17, 18, 19, 20, 21, 22] ad) ∧ ad 0 = h0) (va_A [(h0, .inr (3, [.int 0, .int 0, .null, .null, .null, .null, .null, .null, .int 0, .int 0, .int 0]))] sz)) 22 1711 (va_A [(h0, .inr (3, [.int 0, .int 0, .null, .null, .null, .null, .null, .null, .int 0, .int 0, .int 0]))] sz) := by
  refine Met.ofW (cc := cX3_init) (maxL := 2) (ret := none) (by decide) rfl ?_
  intro p e s m args below meth c s₁ B hml hv
  obtain ⟨rfl, hsz, ⟨⟨hBh, hBs⟩, hro⟩, hP, hSt⟩ := hv
  have hx := B.exec
  have hb := B.bytes
  have hr := B.returns
  have hts0 := atoms_spec (ws := .code yX3_init cX3_init 2 none :: GW) B.pre
  have hts : ∀ w ∈ GW, w.before _ s = true := fun w hw => hts0 w (List.mem_cons_of_mem _ hw)
  have hown : s.vm.findClass RX3 = some m.cls := findClass_of_methodNamed B.named
  have hlocks := B.notSynchronized
  have hin : meth.name = "<init>" := (name_of_methodNamed B.named B.method).1
  have hK := hSt.1
  subst hsz
  have hD : va_D (va_A [(h0, .inr (3, [.int 0, .int 0, .null, .null, .null, .null, .null, .null, .int 0, .int 0, .int 0]))] s.heap.size) [(h0, .inr (3, [.int 0, .int 0, .null, .null, .null, .null, .null, .null, .int 0, .int 0, .int 0]))] := D_nd.mpr ⟨by simp, fun q hq => by
    rw [List.mem_singleton] at hq
    rw [hq]
    exact Or.inl ⟨0, _, rfl⟩⟩
  have hAB0 : ∀ q, va_A [(h0, .inr (3, [.int 0, .int 0, .null, .null, .null, .null, .null, .null, .int 0, .int 0, .int 0]))] s.heap.size q → Bd ≤ q := fun q h => by
    rcases h with ⟨k, e, h⟩ | h
    · have h1 := List.mem_of_getElem? h
      rw [List.mem_singleton] at h1
      cases h1
      exact hBh
    · exact Nat.le_trans hBs h
  have hA0 : ∀ q : Nat, s.heap.size ≤ q → va_A [(h0, .inr (3, [.int 0, .int 0, .null, .null, .null, .null, .null, .null, .int 0, .int 0, .int 0]))] s.heap.size q := fun q h => Or.inr h
  generalize hAe : va_A [(h0, .inr (3, [.int 0, .int 0, .null, .null, .null, .null, .null, .null, .int 0, .int 0, .int 0]))] s.heap.size = A at hD hAB0 hA0 ⊢
  have hAB := hAB0
  have hA := hA0
  have hSB : ∀ {H : Heap} {locs : List Loc}, va_S A s.heap H locs → va_S (fun q => Bd ≤ q) s.heap H locs := fun h => ⟨h.1, fun q h1 h2 => h.2.1 q h1 (fun z => h2 (hAB q z)), fun l hl => hAB _ (h.2.2 l hl)⟩
  have hS : va_S A s.heap s.heap [] := va_S.rf
  have hl := lv_entry ([.ref h0]) (n := 2) (Nat.le_of_ble_eq_true rfl)
  rw [lg_entry_eq]
  generalize (lg_sl ([.ref h0]) ++ List.replicate (2 - (lg_sl ([.ref h0])).length) Slot.unset).toArray = ls at hl ⊢
  have hl : lv_has ls 2 [(0, .ref h0)] := hl
  have hP : va_P (dC, dI) vwCl [(h0, .inr (3, [.int 0, .int 0, .null, .null, .null, .null, .null, .null, .int 0, .int 0, .int 0]))] s.heap := hP
  refine lv_aload_n hx hb dkX3_0 rfl (lv_at hl 0 rfl) ?_
  refine W.objInit hx hb hown (hts _ (GW_in (i := 38) (w := .methodLink RX3 3 objectInit) (by decide +kernel))) (hts _ (GW_in (i := 31) (w := .instanceMethod objectInit) (by decide +kernel))) (hts _ (GW_in (i := 32) (w := .code objectInit ⟨#[0xb1]⟩ 1 none) (by decide +kernel))) rfl (by rw [hml]; exact hl.1) rfl dkX3_1 (Nat.le_of_ble_eq_true rfl) (Nat.le_of_ble_eq_true rfl) ?_
  refine W.eq (g2 := F0 m 4 ls []) rfl ?_
  refine lv_aload_n hx hb dkX3_4 rfl (lv_at hl 0 rfl) ?_
  refine lv_iconst (v := 1) hx hb dkX3_5 (by decide) ?_
  refine va_put (D := (dC, dI)) (ci := 3) (v := .int 1) (ty := .int) (C := RX3) (T := TX3) (N := 11) hx hb hts (ob_in (c := 0) (by decide) rfl) tyX3 tyX3_ok nmX3 hown hK hP hD hS 0 rfl rfl 1 (by decide) (hts _ (GW_in (i := 141) (w := .fieldLink RX3 9 "TicketWindows$Office" "lot" "I") (by decide +kernel))) (fun _ h9 => h9) rfl (by decide +kernel) rfl rfl (Nat.le_of_ble_eq_true rfl) dkX3_6 (fun H locs hP hD hS => ?_)
  have hP : va_P (dC, dI) vwCl ([(h0, .inr (3, [.int 0, .int 1, .null, .null, .null, .null, .null, .null, .int 0, .int 0, .int 0]))]) H := hP
  have hD : va_D A ([(h0, .inr (3, [.int 0, .int 1, .null, .null, .null, .null, .null, .null, .int 0, .int 0, .int 0]))]) := hD
  refine lv_aload_n hx hb dkX3_9 rfl (lv_at hl 0 rfl) ?_
  refine lv_iconst (v := 3) hx hb dkX3_10 (by decide) ?_
  refine nw_arr (atype := .int) (ty := .int) (a0 := (3, .inl (fun _ : Nat => (0 : Int32)))) hx hb (hts _ (GW_in (i := 54) (w := .arrayClass .int) (by decide +kernel))) rfl hK hP hD hS hA 1 rfl (fun C h => by cases h) (fun cA => by first | rfl | exact congrArg (arrV cA 3) (funext fun j => rfl)) (by decide) (by decide) (by decide) (Nat.le_of_ble_eq_true rfl) (Nat.le_of_ble_eq_true rfl) dkX3_11 (fun q1 H hP hD hS => ?_)
  have hP : va_P (dC, dI) vwCl ([(h0, .inr (3, [.int 0, .int 1, .null, .null, .null, .null, .null, .null, .int 0, .int 0, .int 0])), (q1, .inl (cyI, 3, .inl (fun _ : Nat => (0 : Int32))))]) H := hP
  have hD : va_D A ([(h0, .inr (3, [.int 0, .int 1, .null, .null, .null, .null, .null, .null, .int 0, .int 0, .int 0])), (q1, .inl (cyI, 3, .inl (fun _ : Nat => (0 : Int32))))]) := hD
  refine va_putF (D := (dC, dI)) (ci := 3) (v := .ref q1) (ty := .array .int) (C := RX3) (T := TX3) (N := 11) hx hb hts (ob_in (c := 0) (by decide) rfl) tyX3 tyX3_ok nmX3 hown hK hP hD hS 0 rfl rfl 2 (by decide) (hts _ (GW_in (i := 142) (w := .fieldLink RX3 15 "TicketWindows$Office" "settings" "[I") (by decide +kernel))) (fun _ h9 => h9) rfl hin rfl (by decide +kernel) rfl rfl (Nat.le_of_ble_eq_true rfl) dkX3_13 (fun H locs hP hD hS => ?_)
  have hP : va_P (dC, dI) vwCl ([(h0, .inr (3, [.int 0, .int 1, .ref q1, .null, .null, .null, .null, .null, .int 0, .int 0, .int 0])), (q1, .inl (cyI, 3, .inl (fun _ : Nat => (0 : Int32))))]) H := hP
  have hD : va_D A ([(h0, .inr (3, [.int 0, .int 1, .ref q1, .null, .null, .null, .null, .null, .int 0, .int 0, .int 0])), (q1, .inl (cyI, 3, .inl (fun _ : Nat => (0 : Int32))))]) := hD
  refine lv_iconst (v := 0) hx hb dkX3_16 (by decide) ?_
  refine lv_istore_n (lv' := [(1, .int 0), (0, .ref h0)]) hx hb dkX3_17 rfl hl (by decide) rfl (fun ls hl => ?_)
  refine lv_iload_n hx hb dkX3_18 rfl (lv_at hl 0 rfl) ?_
  refine lv_iconst (v := 3) hx hb dkX3_19 (by decide) ?_
  refine lv_icmp_ge (tgt := 40) hx hb dkX3_20 (by decide) (fun q => absurd q (by decide)) (fun _ => ?_)
  refine lv_aload_n hx hb dkX3_23 rfl (lv_at hl 1 rfl) ?_
  refine va_get (D := (dC, dI)) (ci := 3) (v := .ref q1) (C := RX3) (T := TX3) (N := 11) hx hb hts (ob_in (c := 0) (by decide) rfl) hown hK hP 0 rfl rfl 2 (by decide) (hts _ (GW_in (i := 142) (w := .fieldLink RX3 15 "TicketWindows$Office" "settings" "[I") (by decide +kernel))) (fun _ h9 => h9) rfl dkX3_24 ?_
  refine lv_iload_n hx hb dkX3_27 rfl (lv_at hl 0 rfl) ?_
  refine va_getsN hx hb (va_Z.narrow (hSt.2.2.1 36 (by decide) (by decide)).1 hAB) hS hown (va_Nw.use rfl (hSt.2.1 39 (.fieldLinkNest RX3 19 "TicketWindows" "FIRST_SETTING" "[I" "TicketWindows") (by decide +kernel) rfl)) (fun _ h9 => h9) dkX3_28 ?_
  refine lv_iload_n hx hb dkX3_31 rfl (lv_at hl 0 rfl) ?_
  refine va_ti hx hb (va_T.narrow (hSt.2.2.1 36 (by decide) (by decide)).2 hAB) hS (by unfold vp_in; decide) (v := .int 0) (by rfl) dkX3_32 ?_
  refine va_iast hx hb hK hP hD hS 1 1 rfl rfl (by unfold vp_in; decide) dkX3_33 (fun H locs hP hD hS => ?_)
  have hP : va_P (dC, dI) vwCl ([(h0, .inr (3, [.int 0, .int 1, .ref q1, .null, .null, .null, .null, .null, .int 0, .int 0, .int 0])), (q1, .inl (cyI, 3, .inl (upd (fun _ : Nat => (0 : Int32)) 0 (0))))]) H := hP
  have hD : va_D A ([(h0, .inr (3, [.int 0, .int 1, .ref q1, .null, .null, .null, .null, .null, .int 0, .int 0, .int 0])), (q1, .inl (cyI, 3, .inl (upd (fun _ : Nat => (0 : Int32)) 0 (0))))]) := hD
  refine lv_iinc (v := 1) (lv' := [(1, .int 1), (0, .ref h0)]) hx hb dkX3_34 hl (k := 0) rfl (by decide) (by decide) rfl (fun ls hl => ?_)
  refine lv_goto (tgt := 18) hx hb dkX3_37 (by decide) ?_
  refine lv_iload_n hx hb dkX3_18 rfl (lv_at hl 0 rfl) ?_
  refine lv_iconst (v := 3) hx hb dkX3_19 (by decide) ?_
  refine lv_icmp_ge (tgt := 40) hx hb dkX3_20 (by decide) (fun q => absurd q (by decide)) (fun _ => ?_)
  refine lv_aload_n hx hb dkX3_23 rfl (lv_at hl 1 rfl) ?_
  refine va_get (D := (dC, dI)) (ci := 3) (v := .ref q1) (C := RX3) (T := TX3) (N := 11) hx hb hts (ob_in (c := 0) (by decide) rfl) hown hK hP 0 rfl rfl 2 (by decide) (hts _ (GW_in (i := 142) (w := .fieldLink RX3 15 "TicketWindows$Office" "settings" "[I") (by decide +kernel))) (fun _ h9 => h9) rfl dkX3_24 ?_
  refine lv_iload_n hx hb dkX3_27 rfl (lv_at hl 0 rfl) ?_
  refine va_getsN hx hb (va_Z.narrow (hSt.2.2.1 36 (by decide) (by decide)).1 hAB) hS hown (va_Nw.use rfl (hSt.2.1 39 (.fieldLinkNest RX3 19 "TicketWindows" "FIRST_SETTING" "[I" "TicketWindows") (by decide +kernel) rfl)) (fun _ h9 => h9) dkX3_28 ?_
  refine lv_iload_n hx hb dkX3_31 rfl (lv_at hl 0 rfl) ?_
  refine va_ti hx hb (va_T.narrow (hSt.2.2.1 36 (by decide) (by decide)).2 hAB) hS (by unfold vp_in; decide) (v := .int 3) (by rfl) dkX3_32 ?_
  refine va_iast hx hb hK hP hD hS 1 1 rfl rfl (by unfold vp_in; decide) dkX3_33 (fun H locs hP hD hS => ?_)
  have hP : va_P (dC, dI) vwCl ([(h0, .inr (3, [.int 0, .int 1, .ref q1, .null, .null, .null, .null, .null, .int 0, .int 0, .int 0])), (q1, .inl (cyI, 3, .inl (upd (upd (fun _ : Nat => (0 : Int32)) 0 (0)) 1 (3))))]) H := hP
  have hD : va_D A ([(h0, .inr (3, [.int 0, .int 1, .ref q1, .null, .null, .null, .null, .null, .int 0, .int 0, .int 0])), (q1, .inl (cyI, 3, .inl (upd (upd (fun _ : Nat => (0 : Int32)) 0 (0)) 1 (3))))]) := hD
  refine lv_iinc (v := 2) (lv' := [(1, .int 2), (0, .ref h0)]) hx hb dkX3_34 hl (k := 0) rfl (by decide) (by decide) rfl (fun ls hl => ?_)
  refine lv_goto (tgt := 18) hx hb dkX3_37 (by decide) ?_
  refine lv_iload_n hx hb dkX3_18 rfl (lv_at hl 0 rfl) ?_
  refine lv_iconst (v := 3) hx hb dkX3_19 (by decide) ?_
  refine lv_icmp_ge (tgt := 40) hx hb dkX3_20 (by decide) (fun q => absurd q (by decide)) (fun _ => ?_)
  refine lv_aload_n hx hb dkX3_23 rfl (lv_at hl 1 rfl) ?_
  refine va_get (D := (dC, dI)) (ci := 3) (v := .ref q1) (C := RX3) (T := TX3) (N := 11) hx hb hts (ob_in (c := 0) (by decide) rfl) hown hK hP 0 rfl rfl 2 (by decide) (hts _ (GW_in (i := 142) (w := .fieldLink RX3 15 "TicketWindows$Office" "settings" "[I") (by decide +kernel))) (fun _ h9 => h9) rfl dkX3_24 ?_
  refine lv_iload_n hx hb dkX3_27 rfl (lv_at hl 0 rfl) ?_
  refine va_getsN hx hb (va_Z.narrow (hSt.2.2.1 36 (by decide) (by decide)).1 hAB) hS hown (va_Nw.use rfl (hSt.2.1 39 (.fieldLinkNest RX3 19 "TicketWindows" "FIRST_SETTING" "[I" "TicketWindows") (by decide +kernel) rfl)) (fun _ h9 => h9) dkX3_28 ?_
  refine lv_iload_n hx hb dkX3_31 rfl (lv_at hl 0 rfl) ?_
  refine va_ti hx hb (va_T.narrow (hSt.2.2.1 36 (by decide) (by decide)).2 hAB) hS (by unfold vp_in; decide) (v := .int 12) (by rfl) dkX3_32 ?_
  refine va_iast hx hb hK hP hD hS 1 1 rfl rfl (by unfold vp_in; decide) dkX3_33 (fun H locs hP hD hS => ?_)
  have hP : va_P (dC, dI) vwCl ([(h0, .inr (3, [.int 0, .int 1, .ref q1, .null, .null, .null, .null, .null, .int 0, .int 0, .int 0])), (q1, .inl (cyI, 3, .inl (upd (upd (upd (fun _ : Nat => (0 : Int32)) 0 (0)) 1 (3)) 2 (12))))]) H := hP
  have hD : va_D A ([(h0, .inr (3, [.int 0, .int 1, .ref q1, .null, .null, .null, .null, .null, .int 0, .int 0, .int 0])), (q1, .inl (cyI, 3, .inl (upd (upd (upd (fun _ : Nat => (0 : Int32)) 0 (0)) 1 (3)) 2 (12))))]) := hD
  refine lv_iinc (v := 3) (lv' := [(1, .int 3), (0, .ref h0)]) hx hb dkX3_34 hl (k := 0) rfl (by decide) (by decide) rfl (fun ls hl => ?_)
  refine lv_goto (tgt := 18) hx hb dkX3_37 (by decide) ?_
  refine lv_iload_n hx hb dkX3_18 rfl (lv_at hl 0 rfl) ?_
  refine lv_iconst (v := 3) hx hb dkX3_19 (by decide) ?_
  refine lv_icmp_ge (tgt := 40) hx hb dkX3_20 (by decide) (fun _ => ?_) (fun q => absurd (by decide) q)
  refine lv_aload_n hx hb dkX3_40 rfl (lv_at hl 1 rfl) ?_
  refine va_new (ci := 5) (fs := [.null, .null]) (C := RX5) (T := TX5) (N := 2) hx hb hts (ob_in (c := 2) (by decide) rfl) tyX5 tyX5_ok hown (hts _ (GW_in (i := 41) (w := .classLink RX3 22 RX5) (by decide +kernel))) (hts _ (GW_in (i := 42) (w := .instantiable RX5 2) (by decide +kernel))) (hts _ (GW_in (i := 17) (w := .initialized RX5) (by decide +kernel))) hK hP hD hS hA rfl (fun j hj => by rcases (show j = 0 ∨ j = 1 by omega) with rfl | rfl <;> rfl) (Nat.le_of_ble_eq_true rfl) (Nat.le_of_ble_eq_true rfl) dkX3_41 (fun q2 H hP hD hS => ?_)
  refine lv_dup hx hb dkX3_44 rfl ?_
  have hPc := jn_P (wr := [(h0, .inr (3, [.int 0, .int 1, .ref q1, .null, .null, .null, .null, .null, .int 0, .int 0, .int 0])), (q1, .inl (cyI, 3, .inl (upd (upd (upd (fun _ : Nat => (0 : Int32)) 0 (0)) 1 (3)) 2 (12))))]) hP
  have hbq := hAB _ (jn_D (wr := [(h0, .inr (3, [.int 0, .int 1, .ref q1, .null, .null, .null, .null, .null, .int 0, .int 0, .int 0])), (q1, .inl (cyI, 3, .inl (upd (upd (upd (fun _ : Nat => (0 : Int32)) 0 (0)) 1 (3)) 2 (12))))]) hD)
  have hFc : ∀ x, va_A [(q2, .inr (5, [.null, .null]))] H.size x → A x := fun x hx => by
    rcases hx with ⟨k, e, hx⟩ | hx
    · obtain ⟨hk, hx2⟩ := List.getElem?_eq_some_iff.mp hx
      simp only [List.length_cons, List.length_nil] at hk
      obtain rfl : k = 0 := by omega
      cases hx2
      exact jn_D (wr := [(h0, .inr (3, [.int 0, .int 1, .ref q1, .null, .null, .null, .null, .null, .int 0, .int 0, .int 0])), (q1, .inl (cyI, 3, .inl (upd (upd (upd (fun _ : Nat => (0 : Int32)) 0 (0)) 1 (3)) 2 (12))))]) hD
    · exact hA x (Nat.le_trans hS.1 hx)
  refine va_callv (va_runI (As := []) (rest := [.ref q2, .ref h0]) ⟨hx, hb, hml, hown, hts⟩ (k_Tickets l dC dI cyC cyI cyO rho Bd Ln xs q2 H.size) (cwI 0 hts (fun w hw => by
      rcases List.mem_cons.mp hw with h | h
      · rw [h]; exact GW_good _ (GW_in (i := 45) (by decide +kernel))
      · exact GW_good w h) rfl rfl rfl (hts _ (GW_in (i := 17) (w := .initialized RX5) (by decide +kernel))) (hts _ (GW_in (i := 43) (w := .methodLink RX3 24 yX5_init) (by decide +kernel))) (hts _ (GW_in (i := 44) (w := .instanceMethod yX5_init) (by decide +kernel))) rfl (by decide +kernel) ⟨Nat.le_of_ble_eq_true rfl, Nat.le_of_ble_eq_true rfl⟩) ⟨fun a U g mk h => ⟨h.1, h.2.1, h.2.2.1, h.2.2.2.1, St0_calling h.2.2.2.2 g mk a⟩, fun U hU hW => ⟨rfl, by rw [hU], ⟨⟨hbq, Nat.le_trans hBs hS.1⟩, hro⟩, by rw [hU]; exact hPc, St0_next hSt hro (hSB hS) hU hW⟩⟩ rfl rfl hl.1 rfl (lv_room (Nat.le_of_ble_eq_true rfl)) dkX3_45 ⟨Nat.le_of_ble_eq_true rfl, Nat.le_of_ble_eq_true rfl⟩) hS (fun q _ h => hFc q h) hFc (fun ad2 t H1 locs ht hvm _ hB hz1 hk1 hS => ?_)
  obtain ⟨hP1, hD1, had_ad2⟩ := hB
  rw [ht] at hP1
  obtain ⟨hP, hD⟩ := jn (wr := [(h0, .inr (3, [.int 0, .int 1, .ref q1, .null, .null, .null, .null, .null, .int 0, .int 0, .int 0])), (q1, .inl (cyI, 3, .inl (upd (upd (upd (fun _ : Nat => (0 : Int32)) 0 (0)) 1 (3)) 2 (12))))]) hP hD hk1 hFc hP1 hD1
  generalize H1 = H at hP hS ⊢
  have hP : va_P (dC, dI) vwCl (([(h0, .inr (3, [.int 0, .int 1, .ref q1, .null, .null, .null, .null, .null, .int 0, .int 0, .int 0])), (q1, .inl (cyI, 3, .inl (upd (upd (upd (fun _ : Nat => (0 : Int32)) 0 (0)) 1 (3)) 2 (12))))] ++ bk cyC cyI cyO [2, 3, 4] ad2)) H := hP
  have hD : va_D A (([(h0, .inr (3, [.int 0, .int 1, .ref q1, .null, .null, .null, .null, .null, .int 0, .int 0, .int 0])), (q1, .inl (cyI, 3, .inl (upd (upd (upd (fun _ : Nat => (0 : Int32)) 0 (0)) 1 (3)) 2 (12))))] ++ bk cyC cyI cyO [2, 3, 4] ad2)) := hD
  refine va_putF (D := (dC, dI)) (ci := 3) (v := .ref q2) (ty := .object "TicketWindows$Tickets") (C := RX3) (T := TX3) (N := 11) hx hb hts (ob_in (c := 0) (by decide) rfl) tyX3 tyX3_ok nmX3 hown hK hP hD hS 0 rfl rfl 3 (by decide) (hts _ (GW_in (i := 144) (w := .fieldLink RX3 25 "TicketWindows$Office" "tickets" "LTicketWindows$Tickets;") (by decide +kernel))) (fun _ h9 => h9) rfl hin rfl (by decide +kernel) rfl rfl (Nat.le_of_ble_eq_true rfl) dkX3_48 (fun H locs hP hD hS => ?_)
  have hP : va_P (dC, dI) vwCl (([(h0, .inr (3, [.int 0, .int 1, .ref q1, .ref q2, .null, .null, .null, .null, .int 0, .int 0, .int 0])), (q1, .inl (cyI, 3, .inl (upd (upd (upd (fun _ : Nat => (0 : Int32)) 0 (0)) 1 (3)) 2 (12))))] ++ bk cyC cyI cyO [2, 3, 4] ad2)) H := hP
  have hD : va_D A (([(h0, .inr (3, [.int 0, .int 1, .ref q1, .ref q2, .null, .null, .null, .null, .int 0, .int 0, .int 0])), (q1, .inl (cyI, 3, .inl (upd (upd (upd (fun _ : Nat => (0 : Int32)) 0 (0)) 1 (3)) 2 (12))))] ++ bk cyC cyI cyO [2, 3, 4] ad2)) := hD
  refine lv_aload_n hx hb dkX3_51 rfl (lv_at hl 1 rfl) ?_
  refine va_new (ci := 1) (fs := [.null, .null, .null]) (C := RX1) (T := TX1) (N := 3) hx hb hts (ob_in (c := 5) (by decide) rfl) tyX1 tyX1_ok hown (hts _ (GW_in (i := 55) (w := .classLink RX3 29 RX1) (by decide +kernel))) (hts _ (GW_in (i := 56) (w := .instantiable RX1 3) (by decide +kernel))) (hts _ (GW_in (i := 18) (w := .initialized RX1) (by decide +kernel))) hK hP hD hS hA rfl (fun j hj => by rcases (show j = 0 ∨ j = 1 ∨ j = 2 by omega) with rfl | rfl | rfl <;> rfl) (Nat.le_of_ble_eq_true rfl) (Nat.le_of_ble_eq_true rfl) dkX3_52 (fun q3 H hP hD hS => ?_)
  refine lv_dup hx hb dkX3_55 rfl ?_
  have hPc := jn_P (wr := ([(h0, .inr (3, [.int 0, .int 1, .ref q1, .ref q2, .null, .null, .null, .null, .int 0, .int 0, .int 0])), (q1, .inl (cyI, 3, .inl (upd (upd (upd (fun _ : Nat => (0 : Int32)) 0 (0)) 1 (3)) 2 (12))))] ++ bk cyC cyI cyO [2, 3, 4] ad2)) hP
  have hbq := hAB _ (jn_D (wr := ([(h0, .inr (3, [.int 0, .int 1, .ref q1, .ref q2, .null, .null, .null, .null, .int 0, .int 0, .int 0])), (q1, .inl (cyI, 3, .inl (upd (upd (upd (fun _ : Nat => (0 : Int32)) 0 (0)) 1 (3)) 2 (12))))] ++ bk cyC cyI cyO [2, 3, 4] ad2)) hD)
  have hFc : ∀ x, va_A [(q3, .inr (1, [.null, .null, .null]))] H.size x → A x := fun x hx => by
    rcases hx with ⟨k, e, hx⟩ | hx
    · obtain ⟨hk, hx2⟩ := List.getElem?_eq_some_iff.mp hx
      simp only [List.length_cons, List.length_nil] at hk
      obtain rfl : k = 0 := by omega
      cases hx2
      exact jn_D (wr := ([(h0, .inr (3, [.int 0, .int 1, .ref q1, .ref q2, .null, .null, .null, .null, .int 0, .int 0, .int 0])), (q1, .inl (cyI, 3, .inl (upd (upd (upd (fun _ : Nat => (0 : Int32)) 0 (0)) 1 (3)) 2 (12))))] ++ bk cyC cyI cyO [2, 3, 4] ad2)) hD
    · exact hA x (Nat.le_trans hS.1 hx)
  refine va_callv (va_runI (As := []) (rest := [.ref q3, .ref h0]) ⟨hx, hb, hml, hown, hts⟩ (k_Draws l dC dI cyC cyI cyO rho Bd Ln xs q3 H.size) (cwI 0 hts (fun w hw => by
      rcases List.mem_cons.mp hw with h | h
      · rw [h]; exact GW_good _ (GW_in (i := 59) (by decide +kernel))
      · exact GW_good w h) rfl rfl rfl (hts _ (GW_in (i := 18) (w := .initialized RX1) (by decide +kernel))) (hts _ (GW_in (i := 57) (w := .methodLink RX3 31 yX1_init) (by decide +kernel))) (hts _ (GW_in (i := 58) (w := .instanceMethod yX1_init) (by decide +kernel))) rfl (by decide +kernel) ⟨Nat.le_of_ble_eq_true rfl, Nat.le_of_ble_eq_true rfl⟩) ⟨fun a U g mk h => ⟨h.1, h.2.1, h.2.2.1, h.2.2.2.1, St0_calling h.2.2.2.2 g mk a⟩, fun U hU hW => ⟨rfl, by rw [hU], ⟨⟨hbq, Nat.le_trans hBs hS.1⟩, hro⟩, by rw [hU]; exact hPc, St0_next hSt hro (hSB hS) hU hW⟩⟩ rfl rfl hl.1 rfl (lv_room (Nat.le_of_ble_eq_true rfl)) dkX3_56 ⟨Nat.le_of_ble_eq_true rfl, Nat.le_of_ble_eq_true rfl⟩) hS (fun q _ h => hFc q h) hFc (fun ad3 t H1 locs ht hvm _ hB hz1 hk1 hS => ?_)
  obtain ⟨hP1, hD1, had_ad3⟩ := hB
  rw [ht] at hP1
  obtain ⟨hP, hD⟩ := jn (wr := ([(h0, .inr (3, [.int 0, .int 1, .ref q1, .ref q2, .null, .null, .null, .null, .int 0, .int 0, .int 0])), (q1, .inl (cyI, 3, .inl (upd (upd (upd (fun _ : Nat => (0 : Int32)) 0 (0)) 1 (3)) 2 (12))))] ++ bk cyC cyI cyO [2, 3, 4] ad2)) hP hD hk1 hFc hP1 hD1
  generalize H1 = H at hP hS ⊢
  have hP : va_P (dC, dI) vwCl ((([(h0, .inr (3, [.int 0, .int 1, .ref q1, .ref q2, .null, .null, .null, .null, .int 0, .int 0, .int 0])), (q1, .inl (cyI, 3, .inl (upd (upd (upd (fun _ : Nat => (0 : Int32)) 0 (0)) 1 (3)) 2 (12))))] ++ bk cyC cyI cyO [2, 3, 4] ad2) ++ bk cyC cyI cyO [5, 6, 7, 8] ad3)) H := hP
  have hD : va_D A ((([(h0, .inr (3, [.int 0, .int 1, .ref q1, .ref q2, .null, .null, .null, .null, .int 0, .int 0, .int 0])), (q1, .inl (cyI, 3, .inl (upd (upd (upd (fun _ : Nat => (0 : Int32)) 0 (0)) 1 (3)) 2 (12))))] ++ bk cyC cyI cyO [2, 3, 4] ad2) ++ bk cyC cyI cyO [5, 6, 7, 8] ad3)) := hD
  refine va_putF (D := (dC, dI)) (ci := 3) (v := .ref q3) (ty := .object "TicketWindows$Draws") (C := RX3) (T := TX3) (N := 11) hx hb hts (ob_in (c := 0) (by decide) rfl) tyX3 tyX3_ok nmX3 hown hK hP hD hS 0 rfl rfl 4 (by decide) (hts _ (GW_in (i := 146) (w := .fieldLink RX3 32 "TicketWindows$Office" "draws" "LTicketWindows$Draws;") (by decide +kernel))) (fun _ h9 => h9) rfl hin rfl (by decide +kernel) rfl rfl (Nat.le_of_ble_eq_true rfl) dkX3_59 (fun H locs hP hD hS => ?_)
  have hP : va_P (dC, dI) vwCl ((([(h0, .inr (3, [.int 0, .int 1, .ref q1, .ref q2, .ref q3, .null, .null, .null, .int 0, .int 0, .int 0])), (q1, .inl (cyI, 3, .inl (upd (upd (upd (fun _ : Nat => (0 : Int32)) 0 (0)) 1 (3)) 2 (12))))] ++ bk cyC cyI cyO [2, 3, 4] ad2) ++ bk cyC cyI cyO [5, 6, 7, 8] ad3)) H := hP
  have hD : va_D A ((([(h0, .inr (3, [.int 0, .int 1, .ref q1, .ref q2, .ref q3, .null, .null, .null, .int 0, .int 0, .int 0])), (q1, .inl (cyI, 3, .inl (upd (upd (upd (fun _ : Nat => (0 : Int32)) 0 (0)) 1 (3)) 2 (12))))] ++ bk cyC cyI cyO [2, 3, 4] ad2) ++ bk cyC cyI cyO [5, 6, 7, 8] ad3)) := hD
  refine lv_aload_n hx hb dkX3_62 rfl (lv_at hl 1 rfl) ?_
  refine va_new (ci := 6) (fs := [.null, .null, .null, .null, .null, .null, .null, .null]) (C := RX6) (T := TX6) (N := 8) hx hb hts (ob_in (c := 9) (by decide) rfl) tyX6 tyX6_ok hown (hts _ (GW_in (i := 73) (w := .classLink RX3 36 RX6) (by decide +kernel))) (hts _ (GW_in (i := 74) (w := .instantiable RX6 8) (by decide +kernel))) (hts _ (GW_in (i := 19) (w := .initialized RX6) (by decide +kernel))) hK hP hD hS hA rfl (fun j hj => by rcases (show j = 0 ∨ j = 1 ∨ j = 2 ∨ j = 3 ∨ j = 4 ∨ j = 5 ∨ j = 6 ∨ j = 7 by omega) with rfl | rfl | rfl | rfl | rfl | rfl | rfl | rfl <;> rfl) (Nat.le_of_ble_eq_true rfl) (Nat.le_of_ble_eq_true rfl) dkX3_63 (fun q4 H hP hD hS => ?_)
  refine lv_dup hx hb dkX3_66 rfl ?_
  have hPc := jn_P (wr := (([(h0, .inr (3, [.int 0, .int 1, .ref q1, .ref q2, .ref q3, .null, .null, .null, .int 0, .int 0, .int 0])), (q1, .inl (cyI, 3, .inl (upd (upd (upd (fun _ : Nat => (0 : Int32)) 0 (0)) 1 (3)) 2 (12))))] ++ bk cyC cyI cyO [2, 3, 4] ad2) ++ bk cyC cyI cyO [5, 6, 7, 8] ad3)) hP
  have hbq := hAB _ (jn_D (wr := (([(h0, .inr (3, [.int 0, .int 1, .ref q1, .ref q2, .ref q3, .null, .null, .null, .int 0, .int 0, .int 0])), (q1, .inl (cyI, 3, .inl (upd (upd (upd (fun _ : Nat => (0 : Int32)) 0 (0)) 1 (3)) 2 (12))))] ++ bk cyC cyI cyO [2, 3, 4] ad2) ++ bk cyC cyI cyO [5, 6, 7, 8] ad3)) hD)
  have hFc : ∀ x, va_A [(q4, .inr (6, [.null, .null, .null, .null, .null, .null, .null, .null]))] H.size x → A x := fun x hx => by
    rcases hx with ⟨k, e, hx⟩ | hx
    · obtain ⟨hk, hx2⟩ := List.getElem?_eq_some_iff.mp hx
      simp only [List.length_cons, List.length_nil] at hk
      obtain rfl : k = 0 := by omega
      cases hx2
      exact jn_D (wr := (([(h0, .inr (3, [.int 0, .int 1, .ref q1, .ref q2, .ref q3, .null, .null, .null, .int 0, .int 0, .int 0])), (q1, .inl (cyI, 3, .inl (upd (upd (upd (fun _ : Nat => (0 : Int32)) 0 (0)) 1 (3)) 2 (12))))] ++ bk cyC cyI cyO [2, 3, 4] ad2) ++ bk cyC cyI cyO [5, 6, 7, 8] ad3)) hD
    · exact hA x (Nat.le_trans hS.1 hx)
  refine va_callv (va_runI (As := []) (rest := [.ref q4, .ref h0]) ⟨hx, hb, hml, hown, hts⟩ (k_Windows l dC dI cyC cyI cyO rho Bd Ln xs q4 H.size) (cwI 0 hts (fun w hw => by
      rcases List.mem_cons.mp hw with h | h
      · rw [h]; exact GW_good _ (GW_in (i := 77) (by decide +kernel))
      · exact GW_good w h) rfl rfl rfl (hts _ (GW_in (i := 19) (w := .initialized RX6) (by decide +kernel))) (hts _ (GW_in (i := 75) (w := .methodLink RX3 38 yX6_init) (by decide +kernel))) (hts _ (GW_in (i := 76) (w := .instanceMethod yX6_init) (by decide +kernel))) rfl (by decide +kernel) ⟨Nat.le_of_ble_eq_true rfl, Nat.le_of_ble_eq_true rfl⟩) ⟨fun a U g mk h => ⟨h.1, h.2.1, h.2.2.1, h.2.2.2.1, St0_calling h.2.2.2.2 g mk a⟩, fun U hU hW => ⟨rfl, by rw [hU], ⟨⟨hbq, Nat.le_trans hBs hS.1⟩, hro⟩, by rw [hU]; exact hPc, St0_next hSt hro (hSB hS) hU hW⟩⟩ rfl rfl hl.1 rfl (lv_room (Nat.le_of_ble_eq_true rfl)) dkX3_67 ⟨Nat.le_of_ble_eq_true rfl, Nat.le_of_ble_eq_true rfl⟩) hS (fun q _ h => hFc q h) hFc (fun ad4 t H1 locs ht hvm _ hB hz1 hk1 hS => ?_)
  obtain ⟨hP1, hD1, had_ad4⟩ := hB
  rw [ht] at hP1
  obtain ⟨hP, hD⟩ := jn (wr := (([(h0, .inr (3, [.int 0, .int 1, .ref q1, .ref q2, .ref q3, .null, .null, .null, .int 0, .int 0, .int 0])), (q1, .inl (cyI, 3, .inl (upd (upd (upd (fun _ : Nat => (0 : Int32)) 0 (0)) 1 (3)) 2 (12))))] ++ bk cyC cyI cyO [2, 3, 4] ad2) ++ bk cyC cyI cyO [5, 6, 7, 8] ad3)) hP hD hk1 hFc hP1 hD1
  generalize H1 = H at hP hS ⊢
  have hP : va_P (dC, dI) vwCl (((([(h0, .inr (3, [.int 0, .int 1, .ref q1, .ref q2, .ref q3, .null, .null, .null, .int 0, .int 0, .int 0])), (q1, .inl (cyI, 3, .inl (upd (upd (upd (fun _ : Nat => (0 : Int32)) 0 (0)) 1 (3)) 2 (12))))] ++ bk cyC cyI cyO [2, 3, 4] ad2) ++ bk cyC cyI cyO [5, 6, 7, 8] ad3) ++ bk cyC cyI cyO [9, 10, 11, 12, 13, 14, 15, 16, 17] ad4)) H := hP
  have hD : va_D A (((([(h0, .inr (3, [.int 0, .int 1, .ref q1, .ref q2, .ref q3, .null, .null, .null, .int 0, .int 0, .int 0])), (q1, .inl (cyI, 3, .inl (upd (upd (upd (fun _ : Nat => (0 : Int32)) 0 (0)) 1 (3)) 2 (12))))] ++ bk cyC cyI cyO [2, 3, 4] ad2) ++ bk cyC cyI cyO [5, 6, 7, 8] ad3) ++ bk cyC cyI cyO [9, 10, 11, 12, 13, 14, 15, 16, 17] ad4)) := hD
  refine va_putF (D := (dC, dI)) (ci := 3) (v := .ref q4) (ty := .object "TicketWindows$Windows") (C := RX3) (T := TX3) (N := 11) hx hb hts (ob_in (c := 0) (by decide) rfl) tyX3 tyX3_ok nmX3 hown hK hP hD hS 0 rfl rfl 5 (by decide) (hts _ (GW_in (i := 148) (w := .fieldLink RX3 39 "TicketWindows$Office" "windows" "LTicketWindows$Windows;") (by decide +kernel))) (fun _ h9 => h9) rfl hin rfl (by decide +kernel) rfl rfl (Nat.le_of_ble_eq_true rfl) dkX3_70 (fun H locs hP hD hS => ?_)
  have hP : va_P (dC, dI) vwCl (((([(h0, .inr (3, [.int 0, .int 1, .ref q1, .ref q2, .ref q3, .ref q4, .null, .null, .int 0, .int 0, .int 0])), (q1, .inl (cyI, 3, .inl (upd (upd (upd (fun _ : Nat => (0 : Int32)) 0 (0)) 1 (3)) 2 (12))))] ++ bk cyC cyI cyO [2, 3, 4] ad2) ++ bk cyC cyI cyO [5, 6, 7, 8] ad3) ++ bk cyC cyI cyO [9, 10, 11, 12, 13, 14, 15, 16, 17] ad4)) H := hP
  have hD : va_D A (((([(h0, .inr (3, [.int 0, .int 1, .ref q1, .ref q2, .ref q3, .ref q4, .null, .null, .int 0, .int 0, .int 0])), (q1, .inl (cyI, 3, .inl (upd (upd (upd (fun _ : Nat => (0 : Int32)) 0 (0)) 1 (3)) 2 (12))))] ++ bk cyC cyI cyO [2, 3, 4] ad2) ++ bk cyC cyI cyO [5, 6, 7, 8] ad3) ++ bk cyC cyI cyO [9, 10, 11, 12, 13, 14, 15, 16, 17] ad4)) := hD
  refine lv_aload_n hx hb dkX3_73 rfl (lv_at hl 1 rfl) ?_
  refine va_new (ci := 2) (fs := [.int 0, .null, .null]) (C := RX2) (T := TX2) (N := 3) hx hb hts (ob_in (c := 18) (by decide) rfl) tyX2 tyX2_ok hown (hts _ (GW_in (i := 105) (w := .classLink RX3 43 RX2) (by decide +kernel))) (hts _ (GW_in (i := 106) (w := .instantiable RX2 3) (by decide +kernel))) (hts _ (GW_in (i := 20) (w := .initialized RX2) (by decide +kernel))) hK hP hD hS hA rfl (fun j hj => by rcases (show j = 0 ∨ j = 1 ∨ j = 2 by omega) with rfl | rfl | rfl <;> rfl) (Nat.le_of_ble_eq_true rfl) (Nat.le_of_ble_eq_true rfl) dkX3_74 (fun q5 H hP hD hS => ?_)
  refine lv_dup hx hb dkX3_77 rfl ?_
  have hPc := jn_P (wr := ((([(h0, .inr (3, [.int 0, .int 1, .ref q1, .ref q2, .ref q3, .ref q4, .null, .null, .int 0, .int 0, .int 0])), (q1, .inl (cyI, 3, .inl (upd (upd (upd (fun _ : Nat => (0 : Int32)) 0 (0)) 1 (3)) 2 (12))))] ++ bk cyC cyI cyO [2, 3, 4] ad2) ++ bk cyC cyI cyO [5, 6, 7, 8] ad3) ++ bk cyC cyI cyO [9, 10, 11, 12, 13, 14, 15, 16, 17] ad4)) hP
  have hbq := hAB _ (jn_D (wr := ((([(h0, .inr (3, [.int 0, .int 1, .ref q1, .ref q2, .ref q3, .ref q4, .null, .null, .int 0, .int 0, .int 0])), (q1, .inl (cyI, 3, .inl (upd (upd (upd (fun _ : Nat => (0 : Int32)) 0 (0)) 1 (3)) 2 (12))))] ++ bk cyC cyI cyO [2, 3, 4] ad2) ++ bk cyC cyI cyO [5, 6, 7, 8] ad3) ++ bk cyC cyI cyO [9, 10, 11, 12, 13, 14, 15, 16, 17] ad4)) hD)
  have hFc : ∀ x, va_A [(q5, .inr (2, [.int 0, .null, .null]))] H.size x → A x := fun x hx => by
    rcases hx with ⟨k, e, hx⟩ | hx
    · obtain ⟨hk, hx2⟩ := List.getElem?_eq_some_iff.mp hx
      simp only [List.length_cons, List.length_nil] at hk
      obtain rfl : k = 0 := by omega
      cases hx2
      exact jn_D (wr := ((([(h0, .inr (3, [.int 0, .int 1, .ref q1, .ref q2, .ref q3, .ref q4, .null, .null, .int 0, .int 0, .int 0])), (q1, .inl (cyI, 3, .inl (upd (upd (upd (fun _ : Nat => (0 : Int32)) 0 (0)) 1 (3)) 2 (12))))] ++ bk cyC cyI cyO [2, 3, 4] ad2) ++ bk cyC cyI cyO [5, 6, 7, 8] ad3) ++ bk cyC cyI cyO [9, 10, 11, 12, 13, 14, 15, 16, 17] ad4)) hD
    · exact hA x (Nat.le_trans hS.1 hx)
  refine va_callv (va_runI (As := []) (rest := [.ref q5, .ref h0]) ⟨hx, hb, hml, hown, hts⟩ (k_Mail l dC dI cyC cyI cyO rho Bd Ln xs q5 H.size) (cwI 0 hts (fun w hw => by
      rcases List.mem_cons.mp hw with h | h
      · rw [h]; exact GW_good _ (GW_in (i := 109) (by decide +kernel))
      · exact GW_good w h) rfl rfl rfl (hts _ (GW_in (i := 20) (w := .initialized RX2) (by decide +kernel))) (hts _ (GW_in (i := 107) (w := .methodLink RX3 45 yX2_init) (by decide +kernel))) (hts _ (GW_in (i := 108) (w := .instanceMethod yX2_init) (by decide +kernel))) rfl (by decide +kernel) ⟨Nat.le_of_ble_eq_true rfl, Nat.le_of_ble_eq_true rfl⟩) ⟨fun a U g mk h => ⟨h.1, h.2.1, h.2.2.1, h.2.2.2.1, St0_calling h.2.2.2.2 g mk a⟩, fun U hU hW => ⟨rfl, by rw [hU], ⟨⟨hbq, Nat.le_trans hBs hS.1⟩, hro⟩, by rw [hU]; exact hPc, St0_next hSt hro (hSB hS) hU hW⟩⟩ rfl rfl hl.1 rfl (lv_room (Nat.le_of_ble_eq_true rfl)) dkX3_78 ⟨Nat.le_of_ble_eq_true rfl, Nat.le_of_ble_eq_true rfl⟩) hS (fun q _ h => hFc q h) hFc (fun ad5 t H1 locs ht hvm _ hB hz1 hk1 hS => ?_)
  obtain ⟨hP1, hD1, had_ad5⟩ := hB
  rw [ht] at hP1
  obtain ⟨hP, hD⟩ := jn (wr := ((([(h0, .inr (3, [.int 0, .int 1, .ref q1, .ref q2, .ref q3, .ref q4, .null, .null, .int 0, .int 0, .int 0])), (q1, .inl (cyI, 3, .inl (upd (upd (upd (fun _ : Nat => (0 : Int32)) 0 (0)) 1 (3)) 2 (12))))] ++ bk cyC cyI cyO [2, 3, 4] ad2) ++ bk cyC cyI cyO [5, 6, 7, 8] ad3) ++ bk cyC cyI cyO [9, 10, 11, 12, 13, 14, 15, 16, 17] ad4)) hP hD hk1 hFc hP1 hD1
  generalize H1 = H at hP hS ⊢
  have hP : va_P (dC, dI) vwCl ((((([(h0, .inr (3, [.int 0, .int 1, .ref q1, .ref q2, .ref q3, .ref q4, .null, .null, .int 0, .int 0, .int 0])), (q1, .inl (cyI, 3, .inl (upd (upd (upd (fun _ : Nat => (0 : Int32)) 0 (0)) 1 (3)) 2 (12))))] ++ bk cyC cyI cyO [2, 3, 4] ad2) ++ bk cyC cyI cyO [5, 6, 7, 8] ad3) ++ bk cyC cyI cyO [9, 10, 11, 12, 13, 14, 15, 16, 17] ad4) ++ bk cyC cyI cyO [18, 19, 20] ad5)) H := hP
  have hD : va_D A ((((([(h0, .inr (3, [.int 0, .int 1, .ref q1, .ref q2, .ref q3, .ref q4, .null, .null, .int 0, .int 0, .int 0])), (q1, .inl (cyI, 3, .inl (upd (upd (upd (fun _ : Nat => (0 : Int32)) 0 (0)) 1 (3)) 2 (12))))] ++ bk cyC cyI cyO [2, 3, 4] ad2) ++ bk cyC cyI cyO [5, 6, 7, 8] ad3) ++ bk cyC cyI cyO [9, 10, 11, 12, 13, 14, 15, 16, 17] ad4) ++ bk cyC cyI cyO [18, 19, 20] ad5)) := hD
  refine va_putF (D := (dC, dI)) (ci := 3) (v := .ref q5) (ty := .object "TicketWindows$Mail") (C := RX3) (T := TX3) (N := 11) hx hb hts (ob_in (c := 0) (by decide) rfl) tyX3 tyX3_ok nmX3 hown hK hP hD hS 0 rfl rfl 6 (by decide) (hts _ (GW_in (i := 150) (w := .fieldLink RX3 46 "TicketWindows$Office" "mail" "LTicketWindows$Mail;") (by decide +kernel))) (fun _ h9 => h9) rfl hin rfl (by decide +kernel) rfl rfl (Nat.le_of_ble_eq_true rfl) dkX3_81 (fun H locs hP hD hS => ?_)
  have hP : va_P (dC, dI) vwCl ((((([(h0, .inr (3, [.int 0, .int 1, .ref q1, .ref q2, .ref q3, .ref q4, .ref q5, .null, .int 0, .int 0, .int 0])), (q1, .inl (cyI, 3, .inl (upd (upd (upd (fun _ : Nat => (0 : Int32)) 0 (0)) 1 (3)) 2 (12))))] ++ bk cyC cyI cyO [2, 3, 4] ad2) ++ bk cyC cyI cyO [5, 6, 7, 8] ad3) ++ bk cyC cyI cyO [9, 10, 11, 12, 13, 14, 15, 16, 17] ad4) ++ bk cyC cyI cyO [18, 19, 20] ad5)) H := hP
  have hD : va_D A ((((([(h0, .inr (3, [.int 0, .int 1, .ref q1, .ref q2, .ref q3, .ref q4, .ref q5, .null, .int 0, .int 0, .int 0])), (q1, .inl (cyI, 3, .inl (upd (upd (upd (fun _ : Nat => (0 : Int32)) 0 (0)) 1 (3)) 2 (12))))] ++ bk cyC cyI cyO [2, 3, 4] ad2) ++ bk cyC cyI cyO [5, 6, 7, 8] ad3) ++ bk cyC cyI cyO [9, 10, 11, 12, 13, 14, 15, 16, 17] ad4) ++ bk cyC cyI cyO [18, 19, 20] ad5)) := hD
  refine lv_aload_n hx hb dkX3_84 rfl (lv_at hl 1 rfl) ?_
  refine va_new (ci := 0) (fs := [.int 0, .int 0, .null]) (C := RX0) (T := TX0) (N := 3) hx hb hts (ob_in (c := 21) (by decide) rfl) tyX0 tyX0_ok hown (hts _ (GW_in (i := 122) (w := .classLink RX3 50 RX0) (by decide +kernel))) (hts _ (GW_in (i := 123) (w := .instantiable RX0 3) (by decide +kernel))) (hts _ (GW_in (i := 21) (w := .initialized RX0) (by decide +kernel))) hK hP hD hS hA rfl (fun j hj => by rcases (show j = 0 ∨ j = 1 ∨ j = 2 by omega) with rfl | rfl | rfl <;> rfl) (Nat.le_of_ble_eq_true rfl) (Nat.le_of_ble_eq_true rfl) dkX3_85 (fun q6 H hP hD hS => ?_)
  refine lv_dup hx hb dkX3_88 rfl ?_
  have hPc := jn_P (wr := (((([(h0, .inr (3, [.int 0, .int 1, .ref q1, .ref q2, .ref q3, .ref q4, .ref q5, .null, .int 0, .int 0, .int 0])), (q1, .inl (cyI, 3, .inl (upd (upd (upd (fun _ : Nat => (0 : Int32)) 0 (0)) 1 (3)) 2 (12))))] ++ bk cyC cyI cyO [2, 3, 4] ad2) ++ bk cyC cyI cyO [5, 6, 7, 8] ad3) ++ bk cyC cyI cyO [9, 10, 11, 12, 13, 14, 15, 16, 17] ad4) ++ bk cyC cyI cyO [18, 19, 20] ad5)) hP
  have hbq := hAB _ (jn_D (wr := (((([(h0, .inr (3, [.int 0, .int 1, .ref q1, .ref q2, .ref q3, .ref q4, .ref q5, .null, .int 0, .int 0, .int 0])), (q1, .inl (cyI, 3, .inl (upd (upd (upd (fun _ : Nat => (0 : Int32)) 0 (0)) 1 (3)) 2 (12))))] ++ bk cyC cyI cyO [2, 3, 4] ad2) ++ bk cyC cyI cyO [5, 6, 7, 8] ad3) ++ bk cyC cyI cyO [9, 10, 11, 12, 13, 14, 15, 16, 17] ad4) ++ bk cyC cyI cyO [18, 19, 20] ad5)) hD)
  have hFc : ∀ x, va_A [(q6, .inr (0, [.int 0, .int 0, .null]))] H.size x → A x := fun x hx => by
    rcases hx with ⟨k, e, hx⟩ | hx
    · obtain ⟨hk, hx2⟩ := List.getElem?_eq_some_iff.mp hx
      simp only [List.length_cons, List.length_nil] at hk
      obtain rfl : k = 0 := by omega
      cases hx2
      exact jn_D (wr := (((([(h0, .inr (3, [.int 0, .int 1, .ref q1, .ref q2, .ref q3, .ref q4, .ref q5, .null, .int 0, .int 0, .int 0])), (q1, .inl (cyI, 3, .inl (upd (upd (upd (fun _ : Nat => (0 : Int32)) 0 (0)) 1 (3)) 2 (12))))] ++ bk cyC cyI cyO [2, 3, 4] ad2) ++ bk cyC cyI cyO [5, 6, 7, 8] ad3) ++ bk cyC cyI cyO [9, 10, 11, 12, 13, 14, 15, 16, 17] ad4) ++ bk cyC cyI cyO [18, 19, 20] ad5)) hD
    · exact hA x (Nat.le_trans hS.1 hx)
  refine va_callv (va_runI (As := []) (rest := [.ref q6, .ref h0]) ⟨hx, hb, hml, hown, hts⟩ (k_Disputes l dC dI cyC cyI cyO rho Bd Ln xs q6 H.size) (cwI 0 hts (fun w hw => by
      rcases List.mem_cons.mp hw with h | h
      · rw [h]; exact GW_good _ (GW_in (i := 126) (by decide +kernel))
      · exact GW_good w h) rfl rfl rfl (hts _ (GW_in (i := 21) (w := .initialized RX0) (by decide +kernel))) (hts _ (GW_in (i := 124) (w := .methodLink RX3 52 yX0_init) (by decide +kernel))) (hts _ (GW_in (i := 125) (w := .instanceMethod yX0_init) (by decide +kernel))) rfl (by decide +kernel) ⟨Nat.le_of_ble_eq_true rfl, Nat.le_of_ble_eq_true rfl⟩) ⟨fun a U g mk h => ⟨h.1, h.2.1, h.2.2.1, h.2.2.2.1, St0_calling h.2.2.2.2 g mk a⟩, fun U hU hW => ⟨rfl, by rw [hU], ⟨⟨hbq, Nat.le_trans hBs hS.1⟩, hro⟩, by rw [hU]; exact hPc, St0_next hSt hro (hSB hS) hU hW⟩⟩ rfl rfl hl.1 rfl (lv_room (Nat.le_of_ble_eq_true rfl)) dkX3_89 ⟨Nat.le_of_ble_eq_true rfl, Nat.le_of_ble_eq_true rfl⟩) hS (fun q _ h => hFc q h) hFc (fun ad6 t H1 locs ht hvm _ hB hz1 hk1 hS => ?_)
  obtain ⟨hP1, hD1, had_ad6⟩ := hB
  rw [ht] at hP1
  obtain ⟨hP, hD⟩ := jn (wr := (((([(h0, .inr (3, [.int 0, .int 1, .ref q1, .ref q2, .ref q3, .ref q4, .ref q5, .null, .int 0, .int 0, .int 0])), (q1, .inl (cyI, 3, .inl (upd (upd (upd (fun _ : Nat => (0 : Int32)) 0 (0)) 1 (3)) 2 (12))))] ++ bk cyC cyI cyO [2, 3, 4] ad2) ++ bk cyC cyI cyO [5, 6, 7, 8] ad3) ++ bk cyC cyI cyO [9, 10, 11, 12, 13, 14, 15, 16, 17] ad4) ++ bk cyC cyI cyO [18, 19, 20] ad5)) hP hD hk1 hFc hP1 hD1
  generalize H1 = H at hP hS ⊢
  have hP : va_P (dC, dI) vwCl (((((([(h0, .inr (3, [.int 0, .int 1, .ref q1, .ref q2, .ref q3, .ref q4, .ref q5, .null, .int 0, .int 0, .int 0])), (q1, .inl (cyI, 3, .inl (upd (upd (upd (fun _ : Nat => (0 : Int32)) 0 (0)) 1 (3)) 2 (12))))] ++ bk cyC cyI cyO [2, 3, 4] ad2) ++ bk cyC cyI cyO [5, 6, 7, 8] ad3) ++ bk cyC cyI cyO [9, 10, 11, 12, 13, 14, 15, 16, 17] ad4) ++ bk cyC cyI cyO [18, 19, 20] ad5) ++ bk cyC cyI cyO [21, 22] ad6)) H := hP
  have hD : va_D A (((((([(h0, .inr (3, [.int 0, .int 1, .ref q1, .ref q2, .ref q3, .ref q4, .ref q5, .null, .int 0, .int 0, .int 0])), (q1, .inl (cyI, 3, .inl (upd (upd (upd (fun _ : Nat => (0 : Int32)) 0 (0)) 1 (3)) 2 (12))))] ++ bk cyC cyI cyO [2, 3, 4] ad2) ++ bk cyC cyI cyO [5, 6, 7, 8] ad3) ++ bk cyC cyI cyO [9, 10, 11, 12, 13, 14, 15, 16, 17] ad4) ++ bk cyC cyI cyO [18, 19, 20] ad5) ++ bk cyC cyI cyO [21, 22] ad6)) := hD
  refine va_putF (D := (dC, dI)) (ci := 3) (v := .ref q6) (ty := .object "TicketWindows$Disputes") (C := RX3) (T := TX3) (N := 11) hx hb hts (ob_in (c := 0) (by decide) rfl) tyX3 tyX3_ok nmX3 hown hK hP hD hS 0 rfl rfl 7 (by decide) (hts _ (GW_in (i := 151) (w := .fieldLink RX3 53 "TicketWindows$Office" "disputes" "LTicketWindows$Disputes;") (by decide +kernel))) (fun _ h9 => h9) rfl hin rfl (by decide +kernel) rfl rfl (Nat.le_of_ble_eq_true rfl) dkX3_92 (fun H locs hP hD hS => ?_)
  have hP : va_P (dC, dI) vwCl (((((([(h0, .inr (3, [.int 0, .int 1, .ref q1, .ref q2, .ref q3, .ref q4, .ref q5, .ref q6, .int 0, .int 0, .int 0])), (q1, .inl (cyI, 3, .inl (upd (upd (upd (fun _ : Nat => (0 : Int32)) 0 (0)) 1 (3)) 2 (12))))] ++ bk cyC cyI cyO [2, 3, 4] ad2) ++ bk cyC cyI cyO [5, 6, 7, 8] ad3) ++ bk cyC cyI cyO [9, 10, 11, 12, 13, 14, 15, 16, 17] ad4) ++ bk cyC cyI cyO [18, 19, 20] ad5) ++ bk cyC cyI cyO [21, 22] ad6)) H := hP
  have hD : va_D A (((((([(h0, .inr (3, [.int 0, .int 1, .ref q1, .ref q2, .ref q3, .ref q4, .ref q5, .ref q6, .int 0, .int 0, .int 0])), (q1, .inl (cyI, 3, .inl (upd (upd (upd (fun _ : Nat => (0 : Int32)) 0 (0)) 1 (3)) 2 (12))))] ++ bk cyC cyI cyO [2, 3, 4] ad2) ++ bk cyC cyI cyO [5, 6, 7, 8] ad3) ++ bk cyC cyI cyO [9, 10, 11, 12, 13, 14, 15, 16, 17] ad4) ++ bk cyC cyI cyO [18, 19, 20] ad5) ++ bk cyC cyI cyO [21, 22] ad6)) := hD
  have hf1 : (upd (upd (upd (fun _ : Nat => (0 : Int32)) 0 (0)) 1 (3)) 2 (12)) = (fun j : Nat => Int32.ofInt (SI 0 1 j)) := by
    funext j
    rcases Nat.lt_or_ge j 3 with h | h
    · rcases (show j = 0 ∨ j = 1 ∨ j = 2 by omega) with rfl | rfl | rfl <;> rfl
    · unfold upd
      rw [if_neg (by omega), if_neg (by omega), if_neg (by omega)]
      have e : SI 0 1 (j : Int) = 0 := by
        simp only [SI, Nat.reduceEqDiff, ↓reduceIte]
        rw [if_neg (by omega), if_neg (by omega)]
      rw [e]
      rfl
  rw [hf1] at hP hD
  rw [← had_ad2] at hP hD
  rw [← had_ad3] at hP hD
  rw [← had_ad4] at hP hD
  rw [← had_ad5] at hP hD
  rw [← had_ad6] at hP hD
  have hP9 : va_P (dC, dI) vwCl (bk cyC cyI cyO [0, 1, 2, 3, 4, 5, 6, 7, 8, 9, 10, 11, 12, 13, 14, 15, 16, 17, 18, 19, 20, 21, 22] (fun c => [h0, q1, (ad2 2), (ad2 3), (ad2 4), (ad3 5), (ad3 6), (ad3 7), (ad3 8), (ad4 9), (ad4 10), (ad4 11), (ad4 12), (ad4 13), (ad4 14), (ad4 15), (ad4 16), (ad4 17), (ad5 18), (ad5 19), (ad5 20), (ad6 21), (ad6 22)].getD (c - 0) 0)) H := hP
  have hD9 : va_D A (bk cyC cyI cyO [0, 1, 2, 3, 4, 5, 6, 7, 8, 9, 10, 11, 12, 13, 14, 15, 16, 17, 18, 19, 20, 21, 22] (fun c => [h0, q1, (ad2 2), (ad2 3), (ad2 4), (ad3 5), (ad3 6), (ad3 7), (ad3 8), (ad4 9), (ad4 10), (ad4 11), (ad4 12), (ad4 13), (ad4 14), (ad4 15), (ad4 16), (ad4 17), (ad5 18), (ad5 19), (ad5 20), (ad6 21), (ad6 22)].getD (c - 0) 0)) := hD
  refine W.widen (k := 22) (n := 1711) (Nat.le_of_ble_eq_true rfl) (Nat.le_of_ble_eq_true rfl) ?_
  exact W.vret hx hb hr (fun t ht hW => ⟨⟨(fun c => [h0, q1, (ad2 2), (ad2 3), (ad2 4), (ad3 5), (ad3 6), (ad3 7), (ad3 8), (ad4 9), (ad4 10), (ad4 11), (ad4 12), (ad4 13), (ad4 14), (ad4 15), (ad4 16), (ad4 17), (ad5 18), (ad5 19), (ad5 20), (ad6 21), (ad6 22)].getD (c - 0) 0), rfl, trivial, by rw [ht]; exact hP9, hAe ▸ hD9, rfl⟩, hAe ▸ hS.F ht⟩) (hAe ▸ hS.2.2) dkX3_95
end
section
theorem arr_congr {c : ClassId} {n : Nat} {f g : Nat → Value} (h : ∀ j, j < n → f j = g j) : arrV c n f = arrV c n g := by
  have e : (fun j : Fin n => f j.val) = (fun j : Fin n => g j.val) := funext fun j => h j.val j.isLt
  unfold arrV
  rw [e]
theorem hd_P {D : va_G} {cl : List vw_C} {ws : va_W} {a n : Nat} {cA : ClassId} {f g : Nat → Option Nat} {H : Heap} (h : ∀ j, j < n → f j = g j) (hP : va_P D cl ((a, .inl (cA, n, .inr (.inr (.inr (.inr f))))) :: ws) H) : va_P D cl ((a, .inl (cA, n, .inr (.inr (.inr (.inr g))))) :: ws) H := by
  rw [P_mem] at hP ⊢
  intro q hq
  rcases List.mem_cons.mp hq with rfl | hq
  · have h1 := hP _ List.mem_cons_self
    have e : vp_cell cA (n, .inr (.inr (.inr (.inr f)))) = vp_cell cA (n, .inr (.inr (.inr (.inr g)))) := by
      rw [vp_cell_q, vp_cell_q]
      exact arr_congr (fun j hj => by rw [h j hj])
    show H[a]? = some (vp_cell cA (n, .inr (.inr (.inr (.inr g)))))
    rw [← e]
    exact h1
  · exact hP q (List.mem_cons_of_mem _ hq)
theorem hd_D {A : Nat → Prop} {ws : va_W} {a : Nat} {e1 e2 : va_E} (hD : va_D A ((a, e1) :: ws)) : va_D A ((a, e2) :: ws) := by
  rw [D_nd] at hD ⊢
  refine ⟨hD.1, fun q hq => ?_⟩
  rcases List.mem_cons.mp hq with rfl | hq
  · exact hD.2 (a, e1) List.mem_cons_self
  · exact hD.2 q (List.mem_cons_of_mem _ hq)
def kW (cyC cyI cyO : ClassId) (h0 : Nat) (u : (Nat → Nat → Nat) × Nat × (Nat → Nat)) : va_W :=
  [(u.2.1, .inl (cyO, 4, .inr (.inr (.inr (.inr (fun j : Nat => some (u.1 (SI 0 24 j).toNat 0))))))), (h0, .inr (7, [.ref (u.1 0 0), .ref (u.1 1 0), .ref u.2.1, .int 0, .ref (u.1 2 0), .int 0, .ref (u.2.2 25)]))] ++ bk cyC cyI cyO [0, 1, 2, 3, 4, 5, 6, 7, 8, 9, 10, 11, 12, 13, 14, 15, 16, 17, 18, 19, 20, 21, 22] (u.1 0) ++ bk cyC cyI cyO [0, 1, 2, 3, 4, 5, 6, 7, 8, 9, 10, 11, 12, 13, 14, 15, 16, 17, 18, 19, 20, 21, 22] (u.1 1) ++ bk cyC cyI cyO [0, 1, 2, 3, 4, 5, 6, 7, 8, 9, 10, 11, 12, 13, 14, 15, 16, 17, 18, 19, 20, 21, 22] (u.1 2) ++ bk cyC cyI cyO [0, 1, 2, 3, 4, 5, 6, 7, 8, 9, 10, 11, 12, 13, 14, 15, 16, 17, 18, 19, 20, 21, 22] (u.1 3) ++ bk cyC cyI cyO [0, 1, 2, 3, 4, 5, 6, 7, 8, 9, 10, 11, 12, 13, 14, 15, 16, 17, 18, 19, 20, 21, 22] (u.1 4) ++ bk cyC cyI cyO [0, 1, 2, 3, 4, 5, 6, 7, 8, 9, 10, 11, 12, 13, 14, 15, 16, 17, 18, 19, 20, 21, 22] (u.1 5) ++ bk cyC cyI cyO [0, 1, 2, 3, 4, 5, 6, 7, 8, 9, 10, 11, 12, 13, 14, 15, 16, 17, 18, 19, 20, 21, 22] (u.1 6) ++ bk cyC cyI cyO [25, 29, 26, 27, 28] u.2.2
theorem dkX7_0 : decode cX7_init 0 = .ok (.aload_n 0, 1) := by decide +kernel
theorem dkX7_1 : decode cX7_init 1 = .ok (.invokespecial 1, 3) := by decide +kernel
theorem dkX7_4 : decode cX7_init 4 = .ok (.aload_n 0, 1) := by decide +kernel
theorem dkX7_5 : decode cX7_init 5 = .ok (.new 7, 3) := by decide +kernel
theorem dkX7_8 : decode cX7_init 8 = .ok (.dup, 1) := by decide +kernel
theorem dkX7_9 : decode cX7_init 9 = .ok (.invokespecial 9, 3) := by decide +kernel
theorem dkX7_12 : decode cX7_init 12 = .ok (.putfield 10, 3) := by decide +kernel
theorem dkX7_15 : decode cX7_init 15 = .ok (.aload_n 0, 1) := by decide +kernel
theorem dkX7_16 : decode cX7_init 16 = .ok (.new 7, 3) := by decide +kernel
theorem dkX7_19 : decode cX7_init 19 = .ok (.dup, 1) := by decide +kernel
theorem dkX7_20 : decode cX7_init 20 = .ok (.invokespecial 9, 3) := by decide +kernel
theorem dkX7_23 : decode cX7_init 23 = .ok (.putfield 16, 3) := by decide +kernel
theorem dkX7_26 : decode cX7_init 26 = .ok (.aload_n 0, 1) := by decide +kernel
theorem dkX7_27 : decode cX7_init 27 = .ok (.new 7, 3) := by decide +kernel
theorem dkX7_30 : decode cX7_init 30 = .ok (.dup, 1) := by decide +kernel
theorem dkX7_31 : decode cX7_init 31 = .ok (.invokespecial 9, 3) := by decide +kernel
theorem dkX7_34 : decode cX7_init 34 = .ok (.putfield 19, 3) := by decide +kernel
theorem dkX7_37 : decode cX7_init 37 = .ok (.aload_n 0, 1) := by decide +kernel
theorem dkX7_38 : decode cX7_init 38 = .ok (.iconst 4, 1) := by decide +kernel
theorem dkX7_39 : decode cX7_init 39 = .ok (.anewarray 7, 3) := by decide +kernel
theorem dkX7_42 : decode cX7_init 42 = .ok (.putfield 22, 3) := by decide +kernel
theorem dkX7_45 : decode cX7_init 45 = .ok (.iconst 0, 1) := by decide +kernel
theorem dkX7_46 : decode cX7_init 46 = .ok (.istore_n 1, 1) := by decide +kernel
theorem dkX7_47 : decode cX7_init 47 = .ok (.iload_n 1, 1) := by decide +kernel
theorem dkX7_48 : decode cX7_init 48 = .ok (.iconst 4, 1) := by decide +kernel
theorem dkX7_49 : decode cX7_init 49 = .ok (.if_icmp .ge 22, 3) := by decide +kernel
theorem dkX7_52 : decode cX7_init 52 = .ok (.aload_n 0, 1) := by decide +kernel
theorem dkX7_53 : decode cX7_init 53 = .ok (.getfield 22, 3) := by decide +kernel
theorem dkX7_56 : decode cX7_init 56 = .ok (.iload_n 1, 1) := by decide +kernel
theorem dkX7_57 : decode cX7_init 57 = .ok (.new 7, 3) := by decide +kernel
theorem dkX7_60 : decode cX7_init 60 = .ok (.dup, 1) := by decide +kernel
theorem dkX7_61 : decode cX7_init 61 = .ok (.invokespecial 9, 3) := by decide +kernel
theorem dkX7_64 : decode cX7_init 64 = .ok (.aastore, 1) := by decide +kernel
theorem dkX7_65 : decode cX7_init 65 = .ok (.iinc 1 1, 3) := by decide +kernel
theorem dkX7_68 : decode cX7_init 68 = .ok (.goto (-21), 3) := by decide +kernel
theorem dkX7_71 : decode cX7_init 71 = .ok (.aload_n 0, 1) := by decide +kernel
theorem dkX7_72 : decode cX7_init 72 = .ok (.new 26, 3) := by decide +kernel
theorem dkX7_75 : decode cX7_init 75 = .ok (.dup, 1) := by decide +kernel
theorem dkX7_76 : decode cX7_init 76 = .ok (.invokespecial 28, 3) := by decide +kernel
theorem dkX7_79 : decode cX7_init 79 = .ok (.putfield 29, 3) := by decide +kernel
theorem dkX7_82 : decode cX7_init 82 = .ok (.return_, 1) := by decide +kernel
set_option maxHeartbeats 8000000 in
set_option maxRecDepth 100000 in
theorem k_TicketWindows (l : Launch) (dC : Nat → ClassId) (dI : Nat → Nat → Nat) (cyC cyI cyO : ClassId) (rho : Nat → Nat → Nat) (Bd Ln : Nat) (xs : Int → Int) (h0 sz : Nat) : Met l yX7_init (.code yX7_init cX7_init 2 none :: GW) ({ frames := 3, cells := 167, slots := 12185, locals := 54 }) (va_Pc [.ref h0] (fun U => U.heap.size = sz ∧ ((Bd ≤ h0 ∧ Bd ≤ sz) ∧ (∀ c, 36 ≤ c → c < 41 → ¬ Bd ≤ rho 0 c)) ∧ va_P (dC, dI) vwCl [(h0, .inr (7, [.null, .null, .null, .int 0, .null, .int 0, .null]))] U.heap ∧ St0 dC dI cyC cyI cyO rho (fun q => Bd ≤ q) Ln xs U)) (va_Qv (fun _ : (Nat → Nat → Nat) × Nat × (Nat → Nat) => True) (fun (u : (Nat → Nat → Nat) × Nat × (Nat → Nat)) t => va_P (dC, dI) vwCl (kW cyC cyI cyO h0 u) t.heap ∧ va_D (va_A [(h0, .inr (7, [.null, .null, .null, .int 0, .null, .int 0, .null]))] sz) (kW cyC cyI cyO h0 u)) (va_A [(h0, .inr (7, [.null, .null, .null, .int 0, .null, .int 0, .null]))] sz)) 167 12185 (va_A [(h0, .inr (7, [.null, .null, .null, .int 0, .null, .int 0, .null]))] sz) := by
  refine Met.ofW (cc := cX7_init) (maxL := 2) (ret := none) (by decide) rfl ?_
  intro p e s m args below meth c s₁ B hml hv
  obtain ⟨rfl, hsz, ⟨⟨hBh, hBs⟩, hro⟩, hP, hSt⟩ := hv
  have hx := B.exec
  have hb := B.bytes
  have hr := B.returns
  have hts0 := atoms_spec (ws := .code yX7_init cX7_init 2 none :: GW) B.pre
  have hts : ∀ w ∈ GW, w.before _ s = true := fun w hw => hts0 w (List.mem_cons_of_mem _ hw)
  have hown : s.vm.findClass RX7 = some m.cls := findClass_of_methodNamed B.named
  have hlocks := B.notSynchronized
  have hin : meth.name = "<init>" := (name_of_methodNamed B.named B.method).1
  have hK := hSt.1
  have hAO : va_AO RX3 s := hSt.2.1 180 (.arrayOver (.object RX3)) (by decide +kernel) rfl
  subst hsz
  have hD : va_D (va_A [(h0, .inr (7, [.null, .null, .null, .int 0, .null, .int 0, .null]))] s.heap.size) [(h0, .inr (7, [.null, .null, .null, .int 0, .null, .int 0, .null]))] := D_nd.mpr ⟨by simp, fun q hq => by
    rw [List.mem_singleton] at hq
    rw [hq]
    exact Or.inl ⟨0, _, rfl⟩⟩
  have hAB0 : ∀ q, va_A [(h0, .inr (7, [.null, .null, .null, .int 0, .null, .int 0, .null]))] s.heap.size q → Bd ≤ q := fun q h => by
    rcases h with ⟨k, e, h⟩ | h
    · have h1 := List.mem_of_getElem? h
      rw [List.mem_singleton] at h1
      cases h1
      exact hBh
    · exact Nat.le_trans hBs h
  have hA0 : ∀ q : Nat, s.heap.size ≤ q → va_A [(h0, .inr (7, [.null, .null, .null, .int 0, .null, .int 0, .null]))] s.heap.size q := fun q h => Or.inr h
  generalize hAe : va_A [(h0, .inr (7, [.null, .null, .null, .int 0, .null, .int 0, .null]))] s.heap.size = A at hD hAB0 hA0 ⊢
  have hAB := hAB0
  have hA := hA0
  have hSB : ∀ {H : Heap} {locs : List Loc}, va_S A s.heap H locs → va_S (fun q => Bd ≤ q) s.heap H locs := fun h => ⟨h.1, fun q h1 h2 => h.2.1 q h1 (fun z => h2 (hAB q z)), fun l hl => hAB _ (h.2.2 l hl)⟩
  have hS : va_S A s.heap s.heap [] := va_S.rf
  have hl := lv_entry ([.ref h0]) (n := 2) (Nat.le_of_ble_eq_true rfl)
  rw [lg_entry_eq]
  generalize (lg_sl ([.ref h0]) ++ List.replicate (2 - (lg_sl ([.ref h0])).length) Slot.unset).toArray = ls at hl ⊢
  have hl : lv_has ls 2 [(0, .ref h0)] := hl
  have hP : va_P (dC, dI) vwCl [(h0, .inr (7, [.null, .null, .null, .int 0, .null, .int 0, .null]))] s.heap := hP
  refine lv_aload_n hx hb dkX7_0 rfl (lv_at hl 0 rfl) ?_
  refine W.objInit hx hb hown (hts _ (GW_in (i := 30) (w := .methodLink RX7 1 objectInit) (by decide +kernel))) (hts _ (GW_in (i := 31) (w := .instanceMethod objectInit) (by decide +kernel))) (hts _ (GW_in (i := 32) (w := .code objectInit ⟨#[0xb1]⟩ 1 none) (by decide +kernel))) rfl (by rw [hml]; exact hl.1) rfl dkX7_1 (Nat.le_of_ble_eq_true rfl) (Nat.le_of_ble_eq_true rfl) ?_
  refine W.eq (g2 := F0 m 4 ls []) rfl ?_
  refine lv_aload_n hx hb dkX7_4 rfl (lv_at hl 0 rfl) ?_
  refine va_new (ci := 3) (fs := [.int 0, .int 0, .null, .null, .null, .null, .null, .null, .int 0, .int 0, .int 0]) (C := RX3) (T := TX3) (N := 11) hx hb hts (ob_in (c := 0) (by decide) rfl) tyX3 tyX3_ok hown (hts _ (GW_in (i := 33) (w := .classLink RX7 7 RX3) (by decide +kernel))) (hts _ (GW_in (i := 34) (w := .instantiable RX3 11) (by decide +kernel))) (hts _ (GW_in (i := 16) (w := .initialized RX3) (by decide +kernel))) hK hP hD hS hA rfl (fun j hj => by rcases (show j = 0 ∨ j = 1 ∨ j = 2 ∨ j = 3 ∨ j = 4 ∨ j = 5 ∨ j = 6 ∨ j = 7 ∨ j = 8 ∨ j = 9 ∨ j = 10 by omega) with rfl | rfl | rfl | rfl | rfl | rfl | rfl | rfl | rfl | rfl | rfl <;> rfl) (Nat.le_of_ble_eq_true rfl) (Nat.le_of_ble_eq_true rfl) dkX7_5 (fun q1 H hP hD hS => ?_)
  refine lv_dup hx hb dkX7_8 rfl ?_
  have hPc := jn_P (wr := [(h0, .inr (7, [.null, .null, .null, .int 0, .null, .int 0, .null]))]) hP
  have hbq := hAB _ (jn_D (wr := [(h0, .inr (7, [.null, .null, .null, .int 0, .null, .int 0, .null]))]) hD)
  have hFc : ∀ x, va_A [(q1, .inr (3, [.int 0, .int 0, .null, .null, .null, .null, .null, .null, .int 0, .int 0, .int 0]))] H.size x → A x := fun x hx => by
    rcases hx with ⟨k, e, hx⟩ | hx
    · obtain ⟨hk, hx2⟩ := List.getElem?_eq_some_iff.mp hx
      simp only [List.length_cons, List.length_nil] at hk
      obtain rfl : k = 0 := by omega
      cases hx2
      exact jn_D (wr := [(h0, .inr (7, [.null, .null, .null, .int 0, .null, .int 0, .null]))]) hD
    · exact hA x (Nat.le_trans hS.1 hx)
  refine va_callv (va_runI (As := []) (rest := [.ref q1, .ref h0]) ⟨hx, hb, hml, hown, hts⟩ (k_Office l dC dI cyC cyI cyO rho Bd Ln xs q1 H.size) (cwI 0 hts (fun w hw => by
      rcases List.mem_cons.mp hw with h | h
      · rw [h]; exact GW_good _ (GW_in (i := 37) (by decide +kernel))
      · exact GW_good w h) rfl rfl rfl (hts _ (GW_in (i := 16) (w := .initialized RX3) (by decide +kernel))) (hts _ (GW_in (i := 35) (w := .methodLink RX7 9 yX3_init) (by decide +kernel))) (hts _ (GW_in (i := 36) (w := .instanceMethod yX3_init) (by decide +kernel))) rfl (by decide +kernel) ⟨Nat.le_of_ble_eq_true rfl, Nat.le_of_ble_eq_true rfl⟩) ⟨fun a U g mk h => ⟨h.1, h.2.1, h.2.2.1, h.2.2.2.1, St0_calling h.2.2.2.2 g mk a⟩, fun U hU hW => ⟨rfl, by rw [hU], ⟨⟨hbq, Nat.le_trans hBs hS.1⟩, hro⟩, by rw [hU]; exact hPc, St0_next hSt hro (hSB hS) hU hW⟩⟩ rfl rfl hl.1 rfl (lv_room (Nat.le_of_ble_eq_true rfl)) dkX7_9 ⟨Nat.le_of_ble_eq_true rfl, Nat.le_of_ble_eq_true rfl⟩) hS (fun q _ h => hFc q h) hFc (fun ad1 t H1 locs ht hvm _ hB hz1 hk1 hS => ?_)
  obtain ⟨hP1, hD1, had_ad1⟩ := hB
  rw [ht] at hP1
  obtain ⟨hP, hD⟩ := jn (wr := [(h0, .inr (7, [.null, .null, .null, .int 0, .null, .int 0, .null]))]) hP hD hk1 hFc hP1 hD1
  generalize H1 = H at hP hS ⊢
  have hP : va_P (dC, dI) vwCl (([(h0, .inr (7, [.null, .null, .null, .int 0, .null, .int 0, .null]))] ++ bk cyC cyI cyO [0, 1, 2, 3, 4, 5, 6, 7, 8, 9, 10, 11, 12, 13, 14, 15, 16, 17, 18, 19, 20, 21, 22] ad1)) H := hP
  have hD : va_D A (([(h0, .inr (7, [.null, .null, .null, .int 0, .null, .int 0, .null]))] ++ bk cyC cyI cyO [0, 1, 2, 3, 4, 5, 6, 7, 8, 9, 10, 11, 12, 13, 14, 15, 16, 17, 18, 19, 20, 21, 22] ad1)) := hD
  refine va_put (D := (dC, dI)) (ci := 7) (v := .ref q1) (ty := .object "TicketWindows$Office") (C := RX7) (T := TX7) (N := 7) hx hb hts (ob_in (c := 23) (by decide) rfl) tyX7 tyX7_ok nmX7 hown hK hP hD hS 0 rfl rfl 0 (by decide) (hts _ (GW_in (i := 208) (w := .fieldLink RX7 10 "TicketWindows" "now" "LTicketWindows$Office;") (by decide +kernel))) (fun _ h9 => h9) rfl (by decide +kernel) rfl rfl (Nat.le_of_ble_eq_true rfl) dkX7_12 (fun H locs hP hD hS => ?_)
  have hP : va_P (dC, dI) vwCl (([(h0, .inr (7, [.ref q1, .null, .null, .int 0, .null, .int 0, .null]))] ++ bk cyC cyI cyO [0, 1, 2, 3, 4, 5, 6, 7, 8, 9, 10, 11, 12, 13, 14, 15, 16, 17, 18, 19, 20, 21, 22] ad1)) H := hP
  have hD : va_D A (([(h0, .inr (7, [.ref q1, .null, .null, .int 0, .null, .int 0, .null]))] ++ bk cyC cyI cyO [0, 1, 2, 3, 4, 5, 6, 7, 8, 9, 10, 11, 12, 13, 14, 15, 16, 17, 18, 19, 20, 21, 22] ad1)) := hD
  refine lv_aload_n hx hb dkX7_15 rfl (lv_at hl 0 rfl) ?_
  refine va_new (ci := 3) (fs := [.int 0, .int 0, .null, .null, .null, .null, .null, .null, .int 0, .int 0, .int 0]) (C := RX3) (T := TX3) (N := 11) hx hb hts (ob_in (c := 0) (by decide) rfl) tyX3 tyX3_ok hown (hts _ (GW_in (i := 33) (w := .classLink RX7 7 RX3) (by decide +kernel))) (hts _ (GW_in (i := 34) (w := .instantiable RX3 11) (by decide +kernel))) (hts _ (GW_in (i := 16) (w := .initialized RX3) (by decide +kernel))) hK hP hD hS hA rfl (fun j hj => by rcases (show j = 0 ∨ j = 1 ∨ j = 2 ∨ j = 3 ∨ j = 4 ∨ j = 5 ∨ j = 6 ∨ j = 7 ∨ j = 8 ∨ j = 9 ∨ j = 10 by omega) with rfl | rfl | rfl | rfl | rfl | rfl | rfl | rfl | rfl | rfl | rfl <;> rfl) (Nat.le_of_ble_eq_true rfl) (Nat.le_of_ble_eq_true rfl) dkX7_16 (fun q2 H hP hD hS => ?_)
  refine lv_dup hx hb dkX7_19 rfl ?_
  have hPc := jn_P (wr := ([(h0, .inr (7, [.ref q1, .null, .null, .int 0, .null, .int 0, .null]))] ++ bk cyC cyI cyO [0, 1, 2, 3, 4, 5, 6, 7, 8, 9, 10, 11, 12, 13, 14, 15, 16, 17, 18, 19, 20, 21, 22] ad1)) hP
  have hbq := hAB _ (jn_D (wr := ([(h0, .inr (7, [.ref q1, .null, .null, .int 0, .null, .int 0, .null]))] ++ bk cyC cyI cyO [0, 1, 2, 3, 4, 5, 6, 7, 8, 9, 10, 11, 12, 13, 14, 15, 16, 17, 18, 19, 20, 21, 22] ad1)) hD)
  have hFc : ∀ x, va_A [(q2, .inr (3, [.int 0, .int 0, .null, .null, .null, .null, .null, .null, .int 0, .int 0, .int 0]))] H.size x → A x := fun x hx => by
    rcases hx with ⟨k, e, hx⟩ | hx
    · obtain ⟨hk, hx2⟩ := List.getElem?_eq_some_iff.mp hx
      simp only [List.length_cons, List.length_nil] at hk
      obtain rfl : k = 0 := by omega
      cases hx2
      exact jn_D (wr := ([(h0, .inr (7, [.ref q1, .null, .null, .int 0, .null, .int 0, .null]))] ++ bk cyC cyI cyO [0, 1, 2, 3, 4, 5, 6, 7, 8, 9, 10, 11, 12, 13, 14, 15, 16, 17, 18, 19, 20, 21, 22] ad1)) hD
    · exact hA x (Nat.le_trans hS.1 hx)
  refine va_callv (va_runI (As := []) (rest := [.ref q2, .ref h0]) ⟨hx, hb, hml, hown, hts⟩ (k_Office l dC dI cyC cyI cyO rho Bd Ln xs q2 H.size) (cwI 0 hts (fun w hw => by
      rcases List.mem_cons.mp hw with h | h
      · rw [h]; exact GW_good _ (GW_in (i := 37) (by decide +kernel))
      · exact GW_good w h) rfl rfl rfl (hts _ (GW_in (i := 16) (w := .initialized RX3) (by decide +kernel))) (hts _ (GW_in (i := 35) (w := .methodLink RX7 9 yX3_init) (by decide +kernel))) (hts _ (GW_in (i := 36) (w := .instanceMethod yX3_init) (by decide +kernel))) rfl (by decide +kernel) ⟨Nat.le_of_ble_eq_true rfl, Nat.le_of_ble_eq_true rfl⟩) ⟨fun a U g mk h => ⟨h.1, h.2.1, h.2.2.1, h.2.2.2.1, St0_calling h.2.2.2.2 g mk a⟩, fun U hU hW => ⟨rfl, by rw [hU], ⟨⟨hbq, Nat.le_trans hBs hS.1⟩, hro⟩, by rw [hU]; exact hPc, St0_next hSt hro (hSB hS) hU hW⟩⟩ rfl rfl hl.1 rfl (lv_room (Nat.le_of_ble_eq_true rfl)) dkX7_20 ⟨Nat.le_of_ble_eq_true rfl, Nat.le_of_ble_eq_true rfl⟩) hS (fun q _ h => hFc q h) hFc (fun ad2 t H1 locs ht hvm _ hB hz1 hk1 hS => ?_)
  obtain ⟨hP1, hD1, had_ad2⟩ := hB
  rw [ht] at hP1
  obtain ⟨hP, hD⟩ := jn (wr := ([(h0, .inr (7, [.ref q1, .null, .null, .int 0, .null, .int 0, .null]))] ++ bk cyC cyI cyO [0, 1, 2, 3, 4, 5, 6, 7, 8, 9, 10, 11, 12, 13, 14, 15, 16, 17, 18, 19, 20, 21, 22] ad1)) hP hD hk1 hFc hP1 hD1
  generalize H1 = H at hP hS ⊢
  have hP : va_P (dC, dI) vwCl ((([(h0, .inr (7, [.ref q1, .null, .null, .int 0, .null, .int 0, .null]))] ++ bk cyC cyI cyO [0, 1, 2, 3, 4, 5, 6, 7, 8, 9, 10, 11, 12, 13, 14, 15, 16, 17, 18, 19, 20, 21, 22] ad1) ++ bk cyC cyI cyO [0, 1, 2, 3, 4, 5, 6, 7, 8, 9, 10, 11, 12, 13, 14, 15, 16, 17, 18, 19, 20, 21, 22] ad2)) H := hP
  have hD : va_D A ((([(h0, .inr (7, [.ref q1, .null, .null, .int 0, .null, .int 0, .null]))] ++ bk cyC cyI cyO [0, 1, 2, 3, 4, 5, 6, 7, 8, 9, 10, 11, 12, 13, 14, 15, 16, 17, 18, 19, 20, 21, 22] ad1) ++ bk cyC cyI cyO [0, 1, 2, 3, 4, 5, 6, 7, 8, 9, 10, 11, 12, 13, 14, 15, 16, 17, 18, 19, 20, 21, 22] ad2)) := hD
  refine va_put (D := (dC, dI)) (ci := 7) (v := .ref q2) (ty := .object "TicketWindows$Office") (C := RX7) (T := TX7) (N := 7) hx hb hts (ob_in (c := 23) (by decide) rfl) tyX7 tyX7_ok nmX7 hown hK hP hD hS 0 rfl rfl 1 (by decide) (hts _ (GW_in (i := 209) (w := .fieldLink RX7 16 "TicketWindows" "spare" "LTicketWindows$Office;") (by decide +kernel))) (fun _ h9 => h9) rfl (by decide +kernel) rfl rfl (Nat.le_of_ble_eq_true rfl) dkX7_23 (fun H locs hP hD hS => ?_)
  have hP : va_P (dC, dI) vwCl ((([(h0, .inr (7, [.ref q1, .ref q2, .null, .int 0, .null, .int 0, .null]))] ++ bk cyC cyI cyO [0, 1, 2, 3, 4, 5, 6, 7, 8, 9, 10, 11, 12, 13, 14, 15, 16, 17, 18, 19, 20, 21, 22] ad1) ++ bk cyC cyI cyO [0, 1, 2, 3, 4, 5, 6, 7, 8, 9, 10, 11, 12, 13, 14, 15, 16, 17, 18, 19, 20, 21, 22] ad2)) H := hP
  have hD : va_D A ((([(h0, .inr (7, [.ref q1, .ref q2, .null, .int 0, .null, .int 0, .null]))] ++ bk cyC cyI cyO [0, 1, 2, 3, 4, 5, 6, 7, 8, 9, 10, 11, 12, 13, 14, 15, 16, 17, 18, 19, 20, 21, 22] ad1) ++ bk cyC cyI cyO [0, 1, 2, 3, 4, 5, 6, 7, 8, 9, 10, 11, 12, 13, 14, 15, 16, 17, 18, 19, 20, 21, 22] ad2)) := hD
  refine lv_aload_n hx hb dkX7_26 rfl (lv_at hl 0 rfl) ?_
  refine va_new (ci := 3) (fs := [.int 0, .int 0, .null, .null, .null, .null, .null, .null, .int 0, .int 0, .int 0]) (C := RX3) (T := TX3) (N := 11) hx hb hts (ob_in (c := 0) (by decide) rfl) tyX3 tyX3_ok hown (hts _ (GW_in (i := 33) (w := .classLink RX7 7 RX3) (by decide +kernel))) (hts _ (GW_in (i := 34) (w := .instantiable RX3 11) (by decide +kernel))) (hts _ (GW_in (i := 16) (w := .initialized RX3) (by decide +kernel))) hK hP hD hS hA rfl (fun j hj => by rcases (show j = 0 ∨ j = 1 ∨ j = 2 ∨ j = 3 ∨ j = 4 ∨ j = 5 ∨ j = 6 ∨ j = 7 ∨ j = 8 ∨ j = 9 ∨ j = 10 by omega) with rfl | rfl | rfl | rfl | rfl | rfl | rfl | rfl | rfl | rfl | rfl <;> rfl) (Nat.le_of_ble_eq_true rfl) (Nat.le_of_ble_eq_true rfl) dkX7_27 (fun q3 H hP hD hS => ?_)
  refine lv_dup hx hb dkX7_30 rfl ?_
  have hPc := jn_P (wr := (([(h0, .inr (7, [.ref q1, .ref q2, .null, .int 0, .null, .int 0, .null]))] ++ bk cyC cyI cyO [0, 1, 2, 3, 4, 5, 6, 7, 8, 9, 10, 11, 12, 13, 14, 15, 16, 17, 18, 19, 20, 21, 22] ad1) ++ bk cyC cyI cyO [0, 1, 2, 3, 4, 5, 6, 7, 8, 9, 10, 11, 12, 13, 14, 15, 16, 17, 18, 19, 20, 21, 22] ad2)) hP
  have hbq := hAB _ (jn_D (wr := (([(h0, .inr (7, [.ref q1, .ref q2, .null, .int 0, .null, .int 0, .null]))] ++ bk cyC cyI cyO [0, 1, 2, 3, 4, 5, 6, 7, 8, 9, 10, 11, 12, 13, 14, 15, 16, 17, 18, 19, 20, 21, 22] ad1) ++ bk cyC cyI cyO [0, 1, 2, 3, 4, 5, 6, 7, 8, 9, 10, 11, 12, 13, 14, 15, 16, 17, 18, 19, 20, 21, 22] ad2)) hD)
  have hFc : ∀ x, va_A [(q3, .inr (3, [.int 0, .int 0, .null, .null, .null, .null, .null, .null, .int 0, .int 0, .int 0]))] H.size x → A x := fun x hx => by
    rcases hx with ⟨k, e, hx⟩ | hx
    · obtain ⟨hk, hx2⟩ := List.getElem?_eq_some_iff.mp hx
      simp only [List.length_cons, List.length_nil] at hk
      obtain rfl : k = 0 := by omega
      cases hx2
      exact jn_D (wr := (([(h0, .inr (7, [.ref q1, .ref q2, .null, .int 0, .null, .int 0, .null]))] ++ bk cyC cyI cyO [0, 1, 2, 3, 4, 5, 6, 7, 8, 9, 10, 11, 12, 13, 14, 15, 16, 17, 18, 19, 20, 21, 22] ad1) ++ bk cyC cyI cyO [0, 1, 2, 3, 4, 5, 6, 7, 8, 9, 10, 11, 12, 13, 14, 15, 16, 17, 18, 19, 20, 21, 22] ad2)) hD
    · exact hA x (Nat.le_trans hS.1 hx)
  refine va_callv (va_runI (As := []) (rest := [.ref q3, .ref h0]) ⟨hx, hb, hml, hown, hts⟩ (k_Office l dC dI cyC cyI cyO rho Bd Ln xs q3 H.size) (cwI 0 hts (fun w hw => by
      rcases List.mem_cons.mp hw with h | h
      · rw [h]; exact GW_good _ (GW_in (i := 37) (by decide +kernel))
      · exact GW_good w h) rfl rfl rfl (hts _ (GW_in (i := 16) (w := .initialized RX3) (by decide +kernel))) (hts _ (GW_in (i := 35) (w := .methodLink RX7 9 yX3_init) (by decide +kernel))) (hts _ (GW_in (i := 36) (w := .instanceMethod yX3_init) (by decide +kernel))) rfl (by decide +kernel) ⟨Nat.le_of_ble_eq_true rfl, Nat.le_of_ble_eq_true rfl⟩) ⟨fun a U g mk h => ⟨h.1, h.2.1, h.2.2.1, h.2.2.2.1, St0_calling h.2.2.2.2 g mk a⟩, fun U hU hW => ⟨rfl, by rw [hU], ⟨⟨hbq, Nat.le_trans hBs hS.1⟩, hro⟩, by rw [hU]; exact hPc, St0_next hSt hro (hSB hS) hU hW⟩⟩ rfl rfl hl.1 rfl (lv_room (Nat.le_of_ble_eq_true rfl)) dkX7_31 ⟨Nat.le_of_ble_eq_true rfl, Nat.le_of_ble_eq_true rfl⟩) hS (fun q _ h => hFc q h) hFc (fun ad3 t H1 locs ht hvm _ hB hz1 hk1 hS => ?_)
  obtain ⟨hP1, hD1, had_ad3⟩ := hB
  rw [ht] at hP1
  obtain ⟨hP, hD⟩ := jn (wr := (([(h0, .inr (7, [.ref q1, .ref q2, .null, .int 0, .null, .int 0, .null]))] ++ bk cyC cyI cyO [0, 1, 2, 3, 4, 5, 6, 7, 8, 9, 10, 11, 12, 13, 14, 15, 16, 17, 18, 19, 20, 21, 22] ad1) ++ bk cyC cyI cyO [0, 1, 2, 3, 4, 5, 6, 7, 8, 9, 10, 11, 12, 13, 14, 15, 16, 17, 18, 19, 20, 21, 22] ad2)) hP hD hk1 hFc hP1 hD1
  generalize H1 = H at hP hS ⊢
  have hP : va_P (dC, dI) vwCl (((([(h0, .inr (7, [.ref q1, .ref q2, .null, .int 0, .null, .int 0, .null]))] ++ bk cyC cyI cyO [0, 1, 2, 3, 4, 5, 6, 7, 8, 9, 10, 11, 12, 13, 14, 15, 16, 17, 18, 19, 20, 21, 22] ad1) ++ bk cyC cyI cyO [0, 1, 2, 3, 4, 5, 6, 7, 8, 9, 10, 11, 12, 13, 14, 15, 16, 17, 18, 19, 20, 21, 22] ad2) ++ bk cyC cyI cyO [0, 1, 2, 3, 4, 5, 6, 7, 8, 9, 10, 11, 12, 13, 14, 15, 16, 17, 18, 19, 20, 21, 22] ad3)) H := hP
  have hD : va_D A (((([(h0, .inr (7, [.ref q1, .ref q2, .null, .int 0, .null, .int 0, .null]))] ++ bk cyC cyI cyO [0, 1, 2, 3, 4, 5, 6, 7, 8, 9, 10, 11, 12, 13, 14, 15, 16, 17, 18, 19, 20, 21, 22] ad1) ++ bk cyC cyI cyO [0, 1, 2, 3, 4, 5, 6, 7, 8, 9, 10, 11, 12, 13, 14, 15, 16, 17, 18, 19, 20, 21, 22] ad2) ++ bk cyC cyI cyO [0, 1, 2, 3, 4, 5, 6, 7, 8, 9, 10, 11, 12, 13, 14, 15, 16, 17, 18, 19, 20, 21, 22] ad3)) := hD
  refine va_putF (D := (dC, dI)) (ci := 7) (v := .ref q3) (ty := .object "TicketWindows$Office") (C := RX7) (T := TX7) (N := 7) hx hb hts (ob_in (c := 23) (by decide) rfl) tyX7 tyX7_ok nmX7 hown hK hP hD hS 0 rfl rfl 4 (by decide) (hts _ (GW_in (i := 212) (w := .fieldLink RX7 19 "TicketWindows" "snapshot" "LTicketWindows$Office;") (by decide +kernel))) (fun _ h9 => h9) rfl hin rfl (by decide +kernel) rfl rfl (Nat.le_of_ble_eq_true rfl) dkX7_34 (fun H locs hP hD hS => ?_)
  have hP : va_P (dC, dI) vwCl (((([(h0, .inr (7, [.ref q1, .ref q2, .null, .int 0, .ref q3, .int 0, .null]))] ++ bk cyC cyI cyO [0, 1, 2, 3, 4, 5, 6, 7, 8, 9, 10, 11, 12, 13, 14, 15, 16, 17, 18, 19, 20, 21, 22] ad1) ++ bk cyC cyI cyO [0, 1, 2, 3, 4, 5, 6, 7, 8, 9, 10, 11, 12, 13, 14, 15, 16, 17, 18, 19, 20, 21, 22] ad2) ++ bk cyC cyI cyO [0, 1, 2, 3, 4, 5, 6, 7, 8, 9, 10, 11, 12, 13, 14, 15, 16, 17, 18, 19, 20, 21, 22] ad3)) H := hP
  have hD : va_D A (((([(h0, .inr (7, [.ref q1, .ref q2, .null, .int 0, .ref q3, .int 0, .null]))] ++ bk cyC cyI cyO [0, 1, 2, 3, 4, 5, 6, 7, 8, 9, 10, 11, 12, 13, 14, 15, 16, 17, 18, 19, 20, 21, 22] ad1) ++ bk cyC cyI cyO [0, 1, 2, 3, 4, 5, 6, 7, 8, 9, 10, 11, 12, 13, 14, 15, 16, 17, 18, 19, 20, 21, 22] ad2) ++ bk cyC cyI cyO [0, 1, 2, 3, 4, 5, 6, 7, 8, 9, 10, 11, 12, 13, 14, 15, 16, 17, 18, 19, 20, 21, 22] ad3)) := hD
  refine lv_aload_n hx hb dkX7_37 rfl (lv_at hl 0 rfl) ?_
  refine lv_iconst (v := 4) hx hb dkX7_38 (by decide) ?_
  refine nw_ref (C := RX3) hx hb hown (hts _ (GW_in (i := 33) (w := .classLink RX7 7 RX3) (by decide +kernel))) hAO hK hP hD hS hA 2 rfl (N' := 4) (by decide) (by decide) (by decide) (Nat.le_of_ble_eq_true rfl) (Nat.le_of_ble_eq_true rfl) dkX7_39 (fun q4 H hP hD hS => ?_)
  have hP := fr_P hP
  have hD := fr_D hD
  have hP : va_P (dC, dI) vwCl (((([(q4, .inl (cyO, 4, .inr (.inr (.inr (.inr (fun _ => none)))))), (h0, .inr (7, [.ref q1, .ref q2, .null, .int 0, .ref q3, .int 0, .null]))] ++ bk cyC cyI cyO [0, 1, 2, 3, 4, 5, 6, 7, 8, 9, 10, 11, 12, 13, 14, 15, 16, 17, 18, 19, 20, 21, 22] ad1) ++ bk cyC cyI cyO [0, 1, 2, 3, 4, 5, 6, 7, 8, 9, 10, 11, 12, 13, 14, 15, 16, 17, 18, 19, 20, 21, 22] ad2) ++ bk cyC cyI cyO [0, 1, 2, 3, 4, 5, 6, 7, 8, 9, 10, 11, 12, 13, 14, 15, 16, 17, 18, 19, 20, 21, 22] ad3)) H := hP
  have hD : va_D A (((([(q4, .inl (cyO, 4, .inr (.inr (.inr (.inr (fun _ => none)))))), (h0, .inr (7, [.ref q1, .ref q2, .null, .int 0, .ref q3, .int 0, .null]))] ++ bk cyC cyI cyO [0, 1, 2, 3, 4, 5, 6, 7, 8, 9, 10, 11, 12, 13, 14, 15, 16, 17, 18, 19, 20, 21, 22] ad1) ++ bk cyC cyI cyO [0, 1, 2, 3, 4, 5, 6, 7, 8, 9, 10, 11, 12, 13, 14, 15, 16, 17, 18, 19, 20, 21, 22] ad2) ++ bk cyC cyI cyO [0, 1, 2, 3, 4, 5, 6, 7, 8, 9, 10, 11, 12, 13, 14, 15, 16, 17, 18, 19, 20, 21, 22] ad3)) := hD
  refine va_putF (D := (dC, dI)) (ci := 7) (v := .ref q4) (ty := .array (.object "TicketWindows$Office")) (C := RX7) (T := TX7) (N := 7) hx hb hts (ob_in (c := 23) (by decide) rfl) tyX7 tyX7_ok nmX7 hown hK hP hD hS 1 rfl rfl 2 (by decide) (hts _ (GW_in (i := 210) (w := .fieldLink RX7 22 "TicketWindows" "past" "[LTicketWindows$Office;") (by decide +kernel))) (fun _ h9 => h9) rfl hin rfl (by decide +kernel) rfl rfl (Nat.le_of_ble_eq_true rfl) dkX7_42 (fun H locs hP hD hS => ?_)
  have hP : va_P (dC, dI) vwCl (((([(q4, .inl (cyO, 4, .inr (.inr (.inr (.inr (fun _ => none)))))), (h0, .inr (7, [.ref q1, .ref q2, .ref q4, .int 0, .ref q3, .int 0, .null]))] ++ bk cyC cyI cyO [0, 1, 2, 3, 4, 5, 6, 7, 8, 9, 10, 11, 12, 13, 14, 15, 16, 17, 18, 19, 20, 21, 22] ad1) ++ bk cyC cyI cyO [0, 1, 2, 3, 4, 5, 6, 7, 8, 9, 10, 11, 12, 13, 14, 15, 16, 17, 18, 19, 20, 21, 22] ad2) ++ bk cyC cyI cyO [0, 1, 2, 3, 4, 5, 6, 7, 8, 9, 10, 11, 12, 13, 14, 15, 16, 17, 18, 19, 20, 21, 22] ad3)) H := hP
  have hD : va_D A (((([(q4, .inl (cyO, 4, .inr (.inr (.inr (.inr (fun _ => none)))))), (h0, .inr (7, [.ref q1, .ref q2, .ref q4, .int 0, .ref q3, .int 0, .null]))] ++ bk cyC cyI cyO [0, 1, 2, 3, 4, 5, 6, 7, 8, 9, 10, 11, 12, 13, 14, 15, 16, 17, 18, 19, 20, 21, 22] ad1) ++ bk cyC cyI cyO [0, 1, 2, 3, 4, 5, 6, 7, 8, 9, 10, 11, 12, 13, 14, 15, 16, 17, 18, 19, 20, 21, 22] ad2) ++ bk cyC cyI cyO [0, 1, 2, 3, 4, 5, 6, 7, 8, 9, 10, 11, 12, 13, 14, 15, 16, 17, 18, 19, 20, 21, 22] ad3)) := hD
  refine lv_iconst (v := 0) hx hb dkX7_45 (by decide) ?_
  refine lv_istore_n (lv' := [(1, .int 0), (0, .ref h0)]) hx hb dkX7_46 rfl hl (by decide) rfl (fun ls hl => ?_)
  refine lv_iload_n hx hb dkX7_47 rfl (lv_at hl 0 rfl) ?_
  refine lv_iconst (v := 4) hx hb dkX7_48 (by decide) ?_
  refine lv_icmp_ge (tgt := 71) hx hb dkX7_49 (by decide) (fun q => absurd q (by decide)) (fun _ => ?_)
  refine lv_aload_n hx hb dkX7_52 rfl (lv_at hl 1 rfl) ?_
  refine va_get (D := (dC, dI)) (ci := 7) (v := .ref q4) (C := RX7) (T := TX7) (N := 7) hx hb hts (ob_in (c := 23) (by decide) rfl) hown hK hP 1 rfl rfl 2 (by decide) (hts _ (GW_in (i := 210) (w := .fieldLink RX7 22 "TicketWindows" "past" "[LTicketWindows$Office;") (by decide +kernel))) (fun _ h9 => h9) rfl dkX7_53 ?_
  refine lv_iload_n hx hb dkX7_56 rfl (lv_at hl 0 rfl) ?_
  refine va_new (ci := 3) (fs := [.int 0, .int 0, .null, .null, .null, .null, .null, .null, .int 0, .int 0, .int 0]) (C := RX3) (T := TX3) (N := 11) hx hb hts (ob_in (c := 0) (by decide) rfl) tyX3 tyX3_ok hown (hts _ (GW_in (i := 33) (w := .classLink RX7 7 RX3) (by decide +kernel))) (hts _ (GW_in (i := 34) (w := .instantiable RX3 11) (by decide +kernel))) (hts _ (GW_in (i := 16) (w := .initialized RX3) (by decide +kernel))) hK hP hD hS hA rfl (fun j hj => by rcases (show j = 0 ∨ j = 1 ∨ j = 2 ∨ j = 3 ∨ j = 4 ∨ j = 5 ∨ j = 6 ∨ j = 7 ∨ j = 8 ∨ j = 9 ∨ j = 10 by omega) with rfl | rfl | rfl | rfl | rfl | rfl | rfl | rfl | rfl | rfl | rfl <;> rfl) (Nat.le_of_ble_eq_true rfl) (Nat.le_of_ble_eq_true rfl) dkX7_57 (fun q5 H hP hD hS => ?_)
  refine lv_dup hx hb dkX7_60 rfl ?_
  have hPc := jn_P (wr := ((([(q4, .inl (cyO, 4, .inr (.inr (.inr (.inr (fun _ => none)))))), (h0, .inr (7, [.ref q1, .ref q2, .ref q4, .int 0, .ref q3, .int 0, .null]))] ++ bk cyC cyI cyO [0, 1, 2, 3, 4, 5, 6, 7, 8, 9, 10, 11, 12, 13, 14, 15, 16, 17, 18, 19, 20, 21, 22] ad1) ++ bk cyC cyI cyO [0, 1, 2, 3, 4, 5, 6, 7, 8, 9, 10, 11, 12, 13, 14, 15, 16, 17, 18, 19, 20, 21, 22] ad2) ++ bk cyC cyI cyO [0, 1, 2, 3, 4, 5, 6, 7, 8, 9, 10, 11, 12, 13, 14, 15, 16, 17, 18, 19, 20, 21, 22] ad3)) hP
  have hbq := hAB _ (jn_D (wr := ((([(q4, .inl (cyO, 4, .inr (.inr (.inr (.inr (fun _ => none)))))), (h0, .inr (7, [.ref q1, .ref q2, .ref q4, .int 0, .ref q3, .int 0, .null]))] ++ bk cyC cyI cyO [0, 1, 2, 3, 4, 5, 6, 7, 8, 9, 10, 11, 12, 13, 14, 15, 16, 17, 18, 19, 20, 21, 22] ad1) ++ bk cyC cyI cyO [0, 1, 2, 3, 4, 5, 6, 7, 8, 9, 10, 11, 12, 13, 14, 15, 16, 17, 18, 19, 20, 21, 22] ad2) ++ bk cyC cyI cyO [0, 1, 2, 3, 4, 5, 6, 7, 8, 9, 10, 11, 12, 13, 14, 15, 16, 17, 18, 19, 20, 21, 22] ad3)) hD)
  have hFc : ∀ x, va_A [(q5, .inr (3, [.int 0, .int 0, .null, .null, .null, .null, .null, .null, .int 0, .int 0, .int 0]))] H.size x → A x := fun x hx => by
    rcases hx with ⟨k, e, hx⟩ | hx
    · obtain ⟨hk, hx2⟩ := List.getElem?_eq_some_iff.mp hx
      simp only [List.length_cons, List.length_nil] at hk
      obtain rfl : k = 0 := by omega
      cases hx2
      exact jn_D (wr := ((([(q4, .inl (cyO, 4, .inr (.inr (.inr (.inr (fun _ => none)))))), (h0, .inr (7, [.ref q1, .ref q2, .ref q4, .int 0, .ref q3, .int 0, .null]))] ++ bk cyC cyI cyO [0, 1, 2, 3, 4, 5, 6, 7, 8, 9, 10, 11, 12, 13, 14, 15, 16, 17, 18, 19, 20, 21, 22] ad1) ++ bk cyC cyI cyO [0, 1, 2, 3, 4, 5, 6, 7, 8, 9, 10, 11, 12, 13, 14, 15, 16, 17, 18, 19, 20, 21, 22] ad2) ++ bk cyC cyI cyO [0, 1, 2, 3, 4, 5, 6, 7, 8, 9, 10, 11, 12, 13, 14, 15, 16, 17, 18, 19, 20, 21, 22] ad3)) hD
    · exact hA x (Nat.le_trans hS.1 hx)
  refine va_callv (va_runI (As := []) (rest := [.ref q5, .int 0, .ref q4]) ⟨hx, hb, hml, hown, hts⟩ (k_Office l dC dI cyC cyI cyO rho Bd Ln xs q5 H.size) (cwI 0 hts (fun w hw => by
      rcases List.mem_cons.mp hw with h | h
      · rw [h]; exact GW_good _ (GW_in (i := 37) (by decide +kernel))
      · exact GW_good w h) rfl rfl rfl (hts _ (GW_in (i := 16) (w := .initialized RX3) (by decide +kernel))) (hts _ (GW_in (i := 35) (w := .methodLink RX7 9 yX3_init) (by decide +kernel))) (hts _ (GW_in (i := 36) (w := .instanceMethod yX3_init) (by decide +kernel))) rfl (by decide +kernel) ⟨Nat.le_of_ble_eq_true rfl, Nat.le_of_ble_eq_true rfl⟩) ⟨fun a U g mk h => ⟨h.1, h.2.1, h.2.2.1, h.2.2.2.1, St0_calling h.2.2.2.2 g mk a⟩, fun U hU hW => ⟨rfl, by rw [hU], ⟨⟨hbq, Nat.le_trans hBs hS.1⟩, hro⟩, by rw [hU]; exact hPc, St0_next hSt hro (hSB hS) hU hW⟩⟩ rfl rfl hl.1 rfl (lv_room (Nat.le_of_ble_eq_true rfl)) dkX7_61 ⟨Nat.le_of_ble_eq_true rfl, Nat.le_of_ble_eq_true rfl⟩) hS (fun q _ h => hFc q h) hFc (fun ad5 t H1 locs ht hvm _ hB hz1 hk1 hS => ?_)
  obtain ⟨hP1, hD1, had_ad5⟩ := hB
  rw [ht] at hP1
  obtain ⟨hP, hD⟩ := jn (wr := ((([(q4, .inl (cyO, 4, .inr (.inr (.inr (.inr (fun _ => none)))))), (h0, .inr (7, [.ref q1, .ref q2, .ref q4, .int 0, .ref q3, .int 0, .null]))] ++ bk cyC cyI cyO [0, 1, 2, 3, 4, 5, 6, 7, 8, 9, 10, 11, 12, 13, 14, 15, 16, 17, 18, 19, 20, 21, 22] ad1) ++ bk cyC cyI cyO [0, 1, 2, 3, 4, 5, 6, 7, 8, 9, 10, 11, 12, 13, 14, 15, 16, 17, 18, 19, 20, 21, 22] ad2) ++ bk cyC cyI cyO [0, 1, 2, 3, 4, 5, 6, 7, 8, 9, 10, 11, 12, 13, 14, 15, 16, 17, 18, 19, 20, 21, 22] ad3)) hP hD hk1 hFc hP1 hD1
  generalize H1 = H at hP hS ⊢
  have hP : va_P (dC, dI) vwCl ((((([(q4, .inl (cyO, 4, .inr (.inr (.inr (.inr (fun _ => none)))))), (h0, .inr (7, [.ref q1, .ref q2, .ref q4, .int 0, .ref q3, .int 0, .null]))] ++ bk cyC cyI cyO [0, 1, 2, 3, 4, 5, 6, 7, 8, 9, 10, 11, 12, 13, 14, 15, 16, 17, 18, 19, 20, 21, 22] ad1) ++ bk cyC cyI cyO [0, 1, 2, 3, 4, 5, 6, 7, 8, 9, 10, 11, 12, 13, 14, 15, 16, 17, 18, 19, 20, 21, 22] ad2) ++ bk cyC cyI cyO [0, 1, 2, 3, 4, 5, 6, 7, 8, 9, 10, 11, 12, 13, 14, 15, 16, 17, 18, 19, 20, 21, 22] ad3) ++ bk cyC cyI cyO [0, 1, 2, 3, 4, 5, 6, 7, 8, 9, 10, 11, 12, 13, 14, 15, 16, 17, 18, 19, 20, 21, 22] ad5)) H := hP
  have hD : va_D A ((((([(q4, .inl (cyO, 4, .inr (.inr (.inr (.inr (fun _ => none)))))), (h0, .inr (7, [.ref q1, .ref q2, .ref q4, .int 0, .ref q3, .int 0, .null]))] ++ bk cyC cyI cyO [0, 1, 2, 3, 4, 5, 6, 7, 8, 9, 10, 11, 12, 13, 14, 15, 16, 17, 18, 19, 20, 21, 22] ad1) ++ bk cyC cyI cyO [0, 1, 2, 3, 4, 5, 6, 7, 8, 9, 10, 11, 12, 13, 14, 15, 16, 17, 18, 19, 20, 21, 22] ad2) ++ bk cyC cyI cyO [0, 1, 2, 3, 4, 5, 6, 7, 8, 9, 10, 11, 12, 13, 14, 15, 16, 17, 18, 19, 20, 21, 22] ad3) ++ bk cyC cyI cyO [0, 1, 2, 3, 4, 5, 6, 7, 8, 9, 10, 11, 12, 13, 14, 15, 16, 17, 18, 19, 20, 21, 22] ad5)) := hD
  obtain ⟨kv, vs, hkv⟩ : ∃ (kv : Nat) (vs : List Value), ((((([(q4, .inl (cyO, 4, .inr (.inr (.inr (.inr (fun _ => none)))))), (h0, .inr (7, [.ref q1, .ref q2, .ref q4, .int 0, .ref q3, .int 0, .null]))] ++ bk cyC cyI cyO [0, 1, 2, 3, 4, 5, 6, 7, 8, 9, 10, 11, 12, 13, 14, 15, 16, 17, 18, 19, 20, 21, 22] ad1) ++ bk cyC cyI cyO [0, 1, 2, 3, 4, 5, 6, 7, 8, 9, 10, 11, 12, 13, 14, 15, 16, 17, 18, 19, 20, 21, 22] ad2) ++ bk cyC cyI cyO [0, 1, 2, 3, 4, 5, 6, 7, 8, 9, 10, 11, 12, 13, 14, 15, 16, 17, 18, 19, 20, 21, 22] ad3) ++ bk cyC cyI cyO [0, 1, 2, 3, 4, 5, 6, 7, 8, 9, 10, 11, 12, 13, 14, 15, 16, 17, 18, 19, 20, 21, 22] ad5))[kv]? = some (q5, .inr (3, vs)) := by
    obtain ⟨kv, hkv⟩ := List.getElem?_of_mem (l := (((([(q4, .inl (cyO, 4, .inr (.inr (.inr (.inr (fun _ => none)))))), (h0, .inr (7, [.ref q1, .ref q2, .ref q4, .int 0, .ref q3, .int 0, .null]))] ++ bk cyC cyI cyO [0, 1, 2, 3, 4, 5, 6, 7, 8, 9, 10, 11, 12, 13, 14, 15, 16, 17, 18, 19, 20, 21, 22] ad1) ++ bk cyC cyI cyO [0, 1, 2, 3, 4, 5, 6, 7, 8, 9, 10, 11, 12, 13, 14, 15, 16, 17, 18, 19, 20, 21, 22] ad2) ++ bk cyC cyI cyO [0, 1, 2, 3, 4, 5, 6, 7, 8, 9, 10, 11, 12, 13, 14, 15, 16, 17, 18, 19, 20, 21, 22] ad3) ++ bk cyC cyI cyO [0, 1, 2, 3, 4, 5, 6, 7, 8, 9, 10, 11, 12, 13, 14, 15, 16, 17, 18, 19, 20, 21, 22] ad5)) (a := (q5, cE cyC cyI cyO (fun _ c => ad5 c) SI 0 0)) (by rw [← had_ad5]; simp [bk, List.range, List.range.loop])
    exact ⟨kv, _, hkv⟩
  refine va_astq (r := (RX3, TX3, 11)) hx hb hK hP hD hS 0 2 kv 3 rfl rfl hkv rfl (by unfold vp_in; decide) dkX7_64 (fun H locs hP hD hS => ?_)
  have hP : va_P (dC, dI) vwCl ((((([(q4, .inl (cyO, 4, .inr (.inr (.inr (.inr (va_up (fun _ => none) 0 (some q5))))))), (h0, .inr (7, [.ref q1, .ref q2, .ref q4, .int 0, .ref q3, .int 0, .null]))] ++ bk cyC cyI cyO [0, 1, 2, 3, 4, 5, 6, 7, 8, 9, 10, 11, 12, 13, 14, 15, 16, 17, 18, 19, 20, 21, 22] ad1) ++ bk cyC cyI cyO [0, 1, 2, 3, 4, 5, 6, 7, 8, 9, 10, 11, 12, 13, 14, 15, 16, 17, 18, 19, 20, 21, 22] ad2) ++ bk cyC cyI cyO [0, 1, 2, 3, 4, 5, 6, 7, 8, 9, 10, 11, 12, 13, 14, 15, 16, 17, 18, 19, 20, 21, 22] ad3) ++ bk cyC cyI cyO [0, 1, 2, 3, 4, 5, 6, 7, 8, 9, 10, 11, 12, 13, 14, 15, 16, 17, 18, 19, 20, 21, 22] ad5)) H := hP
  have hD : va_D A ((((([(q4, .inl (cyO, 4, .inr (.inr (.inr (.inr (va_up (fun _ => none) 0 (some q5))))))), (h0, .inr (7, [.ref q1, .ref q2, .ref q4, .int 0, .ref q3, .int 0, .null]))] ++ bk cyC cyI cyO [0, 1, 2, 3, 4, 5, 6, 7, 8, 9, 10, 11, 12, 13, 14, 15, 16, 17, 18, 19, 20, 21, 22] ad1) ++ bk cyC cyI cyO [0, 1, 2, 3, 4, 5, 6, 7, 8, 9, 10, 11, 12, 13, 14, 15, 16, 17, 18, 19, 20, 21, 22] ad2) ++ bk cyC cyI cyO [0, 1, 2, 3, 4, 5, 6, 7, 8, 9, 10, 11, 12, 13, 14, 15, 16, 17, 18, 19, 20, 21, 22] ad3) ++ bk cyC cyI cyO [0, 1, 2, 3, 4, 5, 6, 7, 8, 9, 10, 11, 12, 13, 14, 15, 16, 17, 18, 19, 20, 21, 22] ad5)) := hD
  refine lv_iinc (v := 1) (lv' := [(1, .int 1), (0, .ref h0)]) hx hb dkX7_65 hl (k := 0) rfl (by decide) (by decide) rfl (fun ls hl => ?_)
  refine lv_goto (tgt := 47) hx hb dkX7_68 (by decide) ?_
  refine lv_iload_n hx hb dkX7_47 rfl (lv_at hl 0 rfl) ?_
  refine lv_iconst (v := 4) hx hb dkX7_48 (by decide) ?_
  refine lv_icmp_ge (tgt := 71) hx hb dkX7_49 (by decide) (fun q => absurd q (by decide)) (fun _ => ?_)
  refine lv_aload_n hx hb dkX7_52 rfl (lv_at hl 1 rfl) ?_
  refine va_get (D := (dC, dI)) (ci := 7) (v := .ref q4) (C := RX7) (T := TX7) (N := 7) hx hb hts (ob_in (c := 23) (by decide) rfl) hown hK hP 1 rfl rfl 2 (by decide) (hts _ (GW_in (i := 210) (w := .fieldLink RX7 22 "TicketWindows" "past" "[LTicketWindows$Office;") (by decide +kernel))) (fun _ h9 => h9) rfl dkX7_53 ?_
  refine lv_iload_n hx hb dkX7_56 rfl (lv_at hl 0 rfl) ?_
  refine va_new (ci := 3) (fs := [.int 0, .int 0, .null, .null, .null, .null, .null, .null, .int 0, .int 0, .int 0]) (C := RX3) (T := TX3) (N := 11) hx hb hts (ob_in (c := 0) (by decide) rfl) tyX3 tyX3_ok hown (hts _ (GW_in (i := 33) (w := .classLink RX7 7 RX3) (by decide +kernel))) (hts _ (GW_in (i := 34) (w := .instantiable RX3 11) (by decide +kernel))) (hts _ (GW_in (i := 16) (w := .initialized RX3) (by decide +kernel))) hK hP hD hS hA rfl (fun j hj => by rcases (show j = 0 ∨ j = 1 ∨ j = 2 ∨ j = 3 ∨ j = 4 ∨ j = 5 ∨ j = 6 ∨ j = 7 ∨ j = 8 ∨ j = 9 ∨ j = 10 by omega) with rfl | rfl | rfl | rfl | rfl | rfl | rfl | rfl | rfl | rfl | rfl <;> rfl) (Nat.le_of_ble_eq_true rfl) (Nat.le_of_ble_eq_true rfl) dkX7_57 (fun q6 H hP hD hS => ?_)
  refine lv_dup hx hb dkX7_60 rfl ?_
  have hPc := jn_P (wr := (((([(q4, .inl (cyO, 4, .inr (.inr (.inr (.inr (va_up (fun _ => none) 0 (some q5))))))), (h0, .inr (7, [.ref q1, .ref q2, .ref q4, .int 0, .ref q3, .int 0, .null]))] ++ bk cyC cyI cyO [0, 1, 2, 3, 4, 5, 6, 7, 8, 9, 10, 11, 12, 13, 14, 15, 16, 17, 18, 19, 20, 21, 22] ad1) ++ bk cyC cyI cyO [0, 1, 2, 3, 4, 5, 6, 7, 8, 9, 10, 11, 12, 13, 14, 15, 16, 17, 18, 19, 20, 21, 22] ad2) ++ bk cyC cyI cyO [0, 1, 2, 3, 4, 5, 6, 7, 8, 9, 10, 11, 12, 13, 14, 15, 16, 17, 18, 19, 20, 21, 22] ad3) ++ bk cyC cyI cyO [0, 1, 2, 3, 4, 5, 6, 7, 8, 9, 10, 11, 12, 13, 14, 15, 16, 17, 18, 19, 20, 21, 22] ad5)) hP
  have hbq := hAB _ (jn_D (wr := (((([(q4, .inl (cyO, 4, .inr (.inr (.inr (.inr (va_up (fun _ => none) 0 (some q5))))))), (h0, .inr (7, [.ref q1, .ref q2, .ref q4, .int 0, .ref q3, .int 0, .null]))] ++ bk cyC cyI cyO [0, 1, 2, 3, 4, 5, 6, 7, 8, 9, 10, 11, 12, 13, 14, 15, 16, 17, 18, 19, 20, 21, 22] ad1) ++ bk cyC cyI cyO [0, 1, 2, 3, 4, 5, 6, 7, 8, 9, 10, 11, 12, 13, 14, 15, 16, 17, 18, 19, 20, 21, 22] ad2) ++ bk cyC cyI cyO [0, 1, 2, 3, 4, 5, 6, 7, 8, 9, 10, 11, 12, 13, 14, 15, 16, 17, 18, 19, 20, 21, 22] ad3) ++ bk cyC cyI cyO [0, 1, 2, 3, 4, 5, 6, 7, 8, 9, 10, 11, 12, 13, 14, 15, 16, 17, 18, 19, 20, 21, 22] ad5)) hD)
  have hFc : ∀ x, va_A [(q6, .inr (3, [.int 0, .int 0, .null, .null, .null, .null, .null, .null, .int 0, .int 0, .int 0]))] H.size x → A x := fun x hx => by
    rcases hx with ⟨k, e, hx⟩ | hx
    · obtain ⟨hk, hx2⟩ := List.getElem?_eq_some_iff.mp hx
      simp only [List.length_cons, List.length_nil] at hk
      obtain rfl : k = 0 := by omega
      cases hx2
      exact jn_D (wr := (((([(q4, .inl (cyO, 4, .inr (.inr (.inr (.inr (va_up (fun _ => none) 0 (some q5))))))), (h0, .inr (7, [.ref q1, .ref q2, .ref q4, .int 0, .ref q3, .int 0, .null]))] ++ bk cyC cyI cyO [0, 1, 2, 3, 4, 5, 6, 7, 8, 9, 10, 11, 12, 13, 14, 15, 16, 17, 18, 19, 20, 21, 22] ad1) ++ bk cyC cyI cyO [0, 1, 2, 3, 4, 5, 6, 7, 8, 9, 10, 11, 12, 13, 14, 15, 16, 17, 18, 19, 20, 21, 22] ad2) ++ bk cyC cyI cyO [0, 1, 2, 3, 4, 5, 6, 7, 8, 9, 10, 11, 12, 13, 14, 15, 16, 17, 18, 19, 20, 21, 22] ad3) ++ bk cyC cyI cyO [0, 1, 2, 3, 4, 5, 6, 7, 8, 9, 10, 11, 12, 13, 14, 15, 16, 17, 18, 19, 20, 21, 22] ad5)) hD
    · exact hA x (Nat.le_trans hS.1 hx)
  refine va_callv (va_runI (As := []) (rest := [.ref q6, .int 1, .ref q4]) ⟨hx, hb, hml, hown, hts⟩ (k_Office l dC dI cyC cyI cyO rho Bd Ln xs q6 H.size) (cwI 0 hts (fun w hw => by
      rcases List.mem_cons.mp hw with h | h
      · rw [h]; exact GW_good _ (GW_in (i := 37) (by decide +kernel))
      · exact GW_good w h) rfl rfl rfl (hts _ (GW_in (i := 16) (w := .initialized RX3) (by decide +kernel))) (hts _ (GW_in (i := 35) (w := .methodLink RX7 9 yX3_init) (by decide +kernel))) (hts _ (GW_in (i := 36) (w := .instanceMethod yX3_init) (by decide +kernel))) rfl (by decide +kernel) ⟨Nat.le_of_ble_eq_true rfl, Nat.le_of_ble_eq_true rfl⟩) ⟨fun a U g mk h => ⟨h.1, h.2.1, h.2.2.1, h.2.2.2.1, St0_calling h.2.2.2.2 g mk a⟩, fun U hU hW => ⟨rfl, by rw [hU], ⟨⟨hbq, Nat.le_trans hBs hS.1⟩, hro⟩, by rw [hU]; exact hPc, St0_next hSt hro (hSB hS) hU hW⟩⟩ rfl rfl hl.1 rfl (lv_room (Nat.le_of_ble_eq_true rfl)) dkX7_61 ⟨Nat.le_of_ble_eq_true rfl, Nat.le_of_ble_eq_true rfl⟩) hS (fun q _ h => hFc q h) hFc (fun ad6 t H1 locs ht hvm _ hB hz1 hk1 hS => ?_)
  obtain ⟨hP1, hD1, had_ad6⟩ := hB
  rw [ht] at hP1
  obtain ⟨hP, hD⟩ := jn (wr := (((([(q4, .inl (cyO, 4, .inr (.inr (.inr (.inr (va_up (fun _ => none) 0 (some q5))))))), (h0, .inr (7, [.ref q1, .ref q2, .ref q4, .int 0, .ref q3, .int 0, .null]))] ++ bk cyC cyI cyO [0, 1, 2, 3, 4, 5, 6, 7, 8, 9, 10, 11, 12, 13, 14, 15, 16, 17, 18, 19, 20, 21, 22] ad1) ++ bk cyC cyI cyO [0, 1, 2, 3, 4, 5, 6, 7, 8, 9, 10, 11, 12, 13, 14, 15, 16, 17, 18, 19, 20, 21, 22] ad2) ++ bk cyC cyI cyO [0, 1, 2, 3, 4, 5, 6, 7, 8, 9, 10, 11, 12, 13, 14, 15, 16, 17, 18, 19, 20, 21, 22] ad3) ++ bk cyC cyI cyO [0, 1, 2, 3, 4, 5, 6, 7, 8, 9, 10, 11, 12, 13, 14, 15, 16, 17, 18, 19, 20, 21, 22] ad5)) hP hD hk1 hFc hP1 hD1
  generalize H1 = H at hP hS ⊢
  have hP : va_P (dC, dI) vwCl (((((([(q4, .inl (cyO, 4, .inr (.inr (.inr (.inr (va_up (fun _ => none) 0 (some q5))))))), (h0, .inr (7, [.ref q1, .ref q2, .ref q4, .int 0, .ref q3, .int 0, .null]))] ++ bk cyC cyI cyO [0, 1, 2, 3, 4, 5, 6, 7, 8, 9, 10, 11, 12, 13, 14, 15, 16, 17, 18, 19, 20, 21, 22] ad1) ++ bk cyC cyI cyO [0, 1, 2, 3, 4, 5, 6, 7, 8, 9, 10, 11, 12, 13, 14, 15, 16, 17, 18, 19, 20, 21, 22] ad2) ++ bk cyC cyI cyO [0, 1, 2, 3, 4, 5, 6, 7, 8, 9, 10, 11, 12, 13, 14, 15, 16, 17, 18, 19, 20, 21, 22] ad3) ++ bk cyC cyI cyO [0, 1, 2, 3, 4, 5, 6, 7, 8, 9, 10, 11, 12, 13, 14, 15, 16, 17, 18, 19, 20, 21, 22] ad5) ++ bk cyC cyI cyO [0, 1, 2, 3, 4, 5, 6, 7, 8, 9, 10, 11, 12, 13, 14, 15, 16, 17, 18, 19, 20, 21, 22] ad6)) H := hP
  have hD : va_D A (((((([(q4, .inl (cyO, 4, .inr (.inr (.inr (.inr (va_up (fun _ => none) 0 (some q5))))))), (h0, .inr (7, [.ref q1, .ref q2, .ref q4, .int 0, .ref q3, .int 0, .null]))] ++ bk cyC cyI cyO [0, 1, 2, 3, 4, 5, 6, 7, 8, 9, 10, 11, 12, 13, 14, 15, 16, 17, 18, 19, 20, 21, 22] ad1) ++ bk cyC cyI cyO [0, 1, 2, 3, 4, 5, 6, 7, 8, 9, 10, 11, 12, 13, 14, 15, 16, 17, 18, 19, 20, 21, 22] ad2) ++ bk cyC cyI cyO [0, 1, 2, 3, 4, 5, 6, 7, 8, 9, 10, 11, 12, 13, 14, 15, 16, 17, 18, 19, 20, 21, 22] ad3) ++ bk cyC cyI cyO [0, 1, 2, 3, 4, 5, 6, 7, 8, 9, 10, 11, 12, 13, 14, 15, 16, 17, 18, 19, 20, 21, 22] ad5) ++ bk cyC cyI cyO [0, 1, 2, 3, 4, 5, 6, 7, 8, 9, 10, 11, 12, 13, 14, 15, 16, 17, 18, 19, 20, 21, 22] ad6)) := hD
  obtain ⟨kv, vs, hkv⟩ : ∃ (kv : Nat) (vs : List Value), (((((([(q4, .inl (cyO, 4, .inr (.inr (.inr (.inr (va_up (fun _ => none) 0 (some q5))))))), (h0, .inr (7, [.ref q1, .ref q2, .ref q4, .int 0, .ref q3, .int 0, .null]))] ++ bk cyC cyI cyO [0, 1, 2, 3, 4, 5, 6, 7, 8, 9, 10, 11, 12, 13, 14, 15, 16, 17, 18, 19, 20, 21, 22] ad1) ++ bk cyC cyI cyO [0, 1, 2, 3, 4, 5, 6, 7, 8, 9, 10, 11, 12, 13, 14, 15, 16, 17, 18, 19, 20, 21, 22] ad2) ++ bk cyC cyI cyO [0, 1, 2, 3, 4, 5, 6, 7, 8, 9, 10, 11, 12, 13, 14, 15, 16, 17, 18, 19, 20, 21, 22] ad3) ++ bk cyC cyI cyO [0, 1, 2, 3, 4, 5, 6, 7, 8, 9, 10, 11, 12, 13, 14, 15, 16, 17, 18, 19, 20, 21, 22] ad5) ++ bk cyC cyI cyO [0, 1, 2, 3, 4, 5, 6, 7, 8, 9, 10, 11, 12, 13, 14, 15, 16, 17, 18, 19, 20, 21, 22] ad6))[kv]? = some (q6, .inr (3, vs)) := by
    obtain ⟨kv, hkv⟩ := List.getElem?_of_mem (l := ((((([(q4, .inl (cyO, 4, .inr (.inr (.inr (.inr (va_up (fun _ => none) 0 (some q5))))))), (h0, .inr (7, [.ref q1, .ref q2, .ref q4, .int 0, .ref q3, .int 0, .null]))] ++ bk cyC cyI cyO [0, 1, 2, 3, 4, 5, 6, 7, 8, 9, 10, 11, 12, 13, 14, 15, 16, 17, 18, 19, 20, 21, 22] ad1) ++ bk cyC cyI cyO [0, 1, 2, 3, 4, 5, 6, 7, 8, 9, 10, 11, 12, 13, 14, 15, 16, 17, 18, 19, 20, 21, 22] ad2) ++ bk cyC cyI cyO [0, 1, 2, 3, 4, 5, 6, 7, 8, 9, 10, 11, 12, 13, 14, 15, 16, 17, 18, 19, 20, 21, 22] ad3) ++ bk cyC cyI cyO [0, 1, 2, 3, 4, 5, 6, 7, 8, 9, 10, 11, 12, 13, 14, 15, 16, 17, 18, 19, 20, 21, 22] ad5) ++ bk cyC cyI cyO [0, 1, 2, 3, 4, 5, 6, 7, 8, 9, 10, 11, 12, 13, 14, 15, 16, 17, 18, 19, 20, 21, 22] ad6)) (a := (q6, cE cyC cyI cyO (fun _ c => ad6 c) SI 0 0)) (by rw [← had_ad6]; simp [bk, List.range, List.range.loop])
    exact ⟨kv, _, hkv⟩
  refine va_astq (r := (RX3, TX3, 11)) hx hb hK hP hD hS 0 2 kv 3 rfl rfl hkv rfl (by unfold vp_in; decide) dkX7_64 (fun H locs hP hD hS => ?_)
  have hP : va_P (dC, dI) vwCl (((((([(q4, .inl (cyO, 4, .inr (.inr (.inr (.inr (va_up (va_up (fun _ => none) 0 (some q5)) 1 (some q6))))))), (h0, .inr (7, [.ref q1, .ref q2, .ref q4, .int 0, .ref q3, .int 0, .null]))] ++ bk cyC cyI cyO [0, 1, 2, 3, 4, 5, 6, 7, 8, 9, 10, 11, 12, 13, 14, 15, 16, 17, 18, 19, 20, 21, 22] ad1) ++ bk cyC cyI cyO [0, 1, 2, 3, 4, 5, 6, 7, 8, 9, 10, 11, 12, 13, 14, 15, 16, 17, 18, 19, 20, 21, 22] ad2) ++ bk cyC cyI cyO [0, 1, 2, 3, 4, 5, 6, 7, 8, 9, 10, 11, 12, 13, 14, 15, 16, 17, 18, 19, 20, 21, 22] ad3) ++ bk cyC cyI cyO [0, 1, 2, 3, 4, 5, 6, 7, 8, 9, 10, 11, 12, 13, 14, 15, 16, 17, 18, 19, 20, 21, 22] ad5) ++ bk cyC cyI cyO [0, 1, 2, 3, 4, 5, 6, 7, 8, 9, 10, 11, 12, 13, 14, 15, 16, 17, 18, 19, 20, 21, 22] ad6)) H := hP
  have hD : va_D A (((((([(q4, .inl (cyO, 4, .inr (.inr (.inr (.inr (va_up (va_up (fun _ => none) 0 (some q5)) 1 (some q6))))))), (h0, .inr (7, [.ref q1, .ref q2, .ref q4, .int 0, .ref q3, .int 0, .null]))] ++ bk cyC cyI cyO [0, 1, 2, 3, 4, 5, 6, 7, 8, 9, 10, 11, 12, 13, 14, 15, 16, 17, 18, 19, 20, 21, 22] ad1) ++ bk cyC cyI cyO [0, 1, 2, 3, 4, 5, 6, 7, 8, 9, 10, 11, 12, 13, 14, 15, 16, 17, 18, 19, 20, 21, 22] ad2) ++ bk cyC cyI cyO [0, 1, 2, 3, 4, 5, 6, 7, 8, 9, 10, 11, 12, 13, 14, 15, 16, 17, 18, 19, 20, 21, 22] ad3) ++ bk cyC cyI cyO [0, 1, 2, 3, 4, 5, 6, 7, 8, 9, 10, 11, 12, 13, 14, 15, 16, 17, 18, 19, 20, 21, 22] ad5) ++ bk cyC cyI cyO [0, 1, 2, 3, 4, 5, 6, 7, 8, 9, 10, 11, 12, 13, 14, 15, 16, 17, 18, 19, 20, 21, 22] ad6)) := hD
  refine lv_iinc (v := 2) (lv' := [(1, .int 2), (0, .ref h0)]) hx hb dkX7_65 hl (k := 0) rfl (by decide) (by decide) rfl (fun ls hl => ?_)
  refine lv_goto (tgt := 47) hx hb dkX7_68 (by decide) ?_
  refine lv_iload_n hx hb dkX7_47 rfl (lv_at hl 0 rfl) ?_
  refine lv_iconst (v := 4) hx hb dkX7_48 (by decide) ?_
  refine lv_icmp_ge (tgt := 71) hx hb dkX7_49 (by decide) (fun q => absurd q (by decide)) (fun _ => ?_)
  refine lv_aload_n hx hb dkX7_52 rfl (lv_at hl 1 rfl) ?_
  refine va_get (D := (dC, dI)) (ci := 7) (v := .ref q4) (C := RX7) (T := TX7) (N := 7) hx hb hts (ob_in (c := 23) (by decide) rfl) hown hK hP 1 rfl rfl 2 (by decide) (hts _ (GW_in (i := 210) (w := .fieldLink RX7 22 "TicketWindows" "past" "[LTicketWindows$Office;") (by decide +kernel))) (fun _ h9 => h9) rfl dkX7_53 ?_
  refine lv_iload_n hx hb dkX7_56 rfl (lv_at hl 0 rfl) ?_
  refine va_new (ci := 3) (fs := [.int 0, .int 0, .null, .null, .null, .null, .null, .null, .int 0, .int 0, .int 0]) (C := RX3) (T := TX3) (N := 11) hx hb hts (ob_in (c := 0) (by decide) rfl) tyX3 tyX3_ok hown (hts _ (GW_in (i := 33) (w := .classLink RX7 7 RX3) (by decide +kernel))) (hts _ (GW_in (i := 34) (w := .instantiable RX3 11) (by decide +kernel))) (hts _ (GW_in (i := 16) (w := .initialized RX3) (by decide +kernel))) hK hP hD hS hA rfl (fun j hj => by rcases (show j = 0 ∨ j = 1 ∨ j = 2 ∨ j = 3 ∨ j = 4 ∨ j = 5 ∨ j = 6 ∨ j = 7 ∨ j = 8 ∨ j = 9 ∨ j = 10 by omega) with rfl | rfl | rfl | rfl | rfl | rfl | rfl | rfl | rfl | rfl | rfl <;> rfl) (Nat.le_of_ble_eq_true rfl) (Nat.le_of_ble_eq_true rfl) dkX7_57 (fun q7 H hP hD hS => ?_)
  refine lv_dup hx hb dkX7_60 rfl ?_
  have hPc := jn_P (wr := ((((([(q4, .inl (cyO, 4, .inr (.inr (.inr (.inr (va_up (va_up (fun _ => none) 0 (some q5)) 1 (some q6))))))), (h0, .inr (7, [.ref q1, .ref q2, .ref q4, .int 0, .ref q3, .int 0, .null]))] ++ bk cyC cyI cyO [0, 1, 2, 3, 4, 5, 6, 7, 8, 9, 10, 11, 12, 13, 14, 15, 16, 17, 18, 19, 20, 21, 22] ad1) ++ bk cyC cyI cyO [0, 1, 2, 3, 4, 5, 6, 7, 8, 9, 10, 11, 12, 13, 14, 15, 16, 17, 18, 19, 20, 21, 22] ad2) ++ bk cyC cyI cyO [0, 1, 2, 3, 4, 5, 6, 7, 8, 9, 10, 11, 12, 13, 14, 15, 16, 17, 18, 19, 20, 21, 22] ad3) ++ bk cyC cyI cyO [0, 1, 2, 3, 4, 5, 6, 7, 8, 9, 10, 11, 12, 13, 14, 15, 16, 17, 18, 19, 20, 21, 22] ad5) ++ bk cyC cyI cyO [0, 1, 2, 3, 4, 5, 6, 7, 8, 9, 10, 11, 12, 13, 14, 15, 16, 17, 18, 19, 20, 21, 22] ad6)) hP
  have hbq := hAB _ (jn_D (wr := ((((([(q4, .inl (cyO, 4, .inr (.inr (.inr (.inr (va_up (va_up (fun _ => none) 0 (some q5)) 1 (some q6))))))), (h0, .inr (7, [.ref q1, .ref q2, .ref q4, .int 0, .ref q3, .int 0, .null]))] ++ bk cyC cyI cyO [0, 1, 2, 3, 4, 5, 6, 7, 8, 9, 10, 11, 12, 13, 14, 15, 16, 17, 18, 19, 20, 21, 22] ad1) ++ bk cyC cyI cyO [0, 1, 2, 3, 4, 5, 6, 7, 8, 9, 10, 11, 12, 13, 14, 15, 16, 17, 18, 19, 20, 21, 22] ad2) ++ bk cyC cyI cyO [0, 1, 2, 3, 4, 5, 6, 7, 8, 9, 10, 11, 12, 13, 14, 15, 16, 17, 18, 19, 20, 21, 22] ad3) ++ bk cyC cyI cyO [0, 1, 2, 3, 4, 5, 6, 7, 8, 9, 10, 11, 12, 13, 14, 15, 16, 17, 18, 19, 20, 21, 22] ad5) ++ bk cyC cyI cyO [0, 1, 2, 3, 4, 5, 6, 7, 8, 9, 10, 11, 12, 13, 14, 15, 16, 17, 18, 19, 20, 21, 22] ad6)) hD)
  have hFc : ∀ x, va_A [(q7, .inr (3, [.int 0, .int 0, .null, .null, .null, .null, .null, .null, .int 0, .int 0, .int 0]))] H.size x → A x := fun x hx => by
    rcases hx with ⟨k, e, hx⟩ | hx
    · obtain ⟨hk, hx2⟩ := List.getElem?_eq_some_iff.mp hx
      simp only [List.length_cons, List.length_nil] at hk
      obtain rfl : k = 0 := by omega
      cases hx2
      exact jn_D (wr := ((((([(q4, .inl (cyO, 4, .inr (.inr (.inr (.inr (va_up (va_up (fun _ => none) 0 (some q5)) 1 (some q6))))))), (h0, .inr (7, [.ref q1, .ref q2, .ref q4, .int 0, .ref q3, .int 0, .null]))] ++ bk cyC cyI cyO [0, 1, 2, 3, 4, 5, 6, 7, 8, 9, 10, 11, 12, 13, 14, 15, 16, 17, 18, 19, 20, 21, 22] ad1) ++ bk cyC cyI cyO [0, 1, 2, 3, 4, 5, 6, 7, 8, 9, 10, 11, 12, 13, 14, 15, 16, 17, 18, 19, 20, 21, 22] ad2) ++ bk cyC cyI cyO [0, 1, 2, 3, 4, 5, 6, 7, 8, 9, 10, 11, 12, 13, 14, 15, 16, 17, 18, 19, 20, 21, 22] ad3) ++ bk cyC cyI cyO [0, 1, 2, 3, 4, 5, 6, 7, 8, 9, 10, 11, 12, 13, 14, 15, 16, 17, 18, 19, 20, 21, 22] ad5) ++ bk cyC cyI cyO [0, 1, 2, 3, 4, 5, 6, 7, 8, 9, 10, 11, 12, 13, 14, 15, 16, 17, 18, 19, 20, 21, 22] ad6)) hD
    · exact hA x (Nat.le_trans hS.1 hx)
  refine va_callv (va_runI (As := []) (rest := [.ref q7, .int 2, .ref q4]) ⟨hx, hb, hml, hown, hts⟩ (k_Office l dC dI cyC cyI cyO rho Bd Ln xs q7 H.size) (cwI 0 hts (fun w hw => by
      rcases List.mem_cons.mp hw with h | h
      · rw [h]; exact GW_good _ (GW_in (i := 37) (by decide +kernel))
      · exact GW_good w h) rfl rfl rfl (hts _ (GW_in (i := 16) (w := .initialized RX3) (by decide +kernel))) (hts _ (GW_in (i := 35) (w := .methodLink RX7 9 yX3_init) (by decide +kernel))) (hts _ (GW_in (i := 36) (w := .instanceMethod yX3_init) (by decide +kernel))) rfl (by decide +kernel) ⟨Nat.le_of_ble_eq_true rfl, Nat.le_of_ble_eq_true rfl⟩) ⟨fun a U g mk h => ⟨h.1, h.2.1, h.2.2.1, h.2.2.2.1, St0_calling h.2.2.2.2 g mk a⟩, fun U hU hW => ⟨rfl, by rw [hU], ⟨⟨hbq, Nat.le_trans hBs hS.1⟩, hro⟩, by rw [hU]; exact hPc, St0_next hSt hro (hSB hS) hU hW⟩⟩ rfl rfl hl.1 rfl (lv_room (Nat.le_of_ble_eq_true rfl)) dkX7_61 ⟨Nat.le_of_ble_eq_true rfl, Nat.le_of_ble_eq_true rfl⟩) hS (fun q _ h => hFc q h) hFc (fun ad7 t H1 locs ht hvm _ hB hz1 hk1 hS => ?_)
  obtain ⟨hP1, hD1, had_ad7⟩ := hB
  rw [ht] at hP1
  obtain ⟨hP, hD⟩ := jn (wr := ((((([(q4, .inl (cyO, 4, .inr (.inr (.inr (.inr (va_up (va_up (fun _ => none) 0 (some q5)) 1 (some q6))))))), (h0, .inr (7, [.ref q1, .ref q2, .ref q4, .int 0, .ref q3, .int 0, .null]))] ++ bk cyC cyI cyO [0, 1, 2, 3, 4, 5, 6, 7, 8, 9, 10, 11, 12, 13, 14, 15, 16, 17, 18, 19, 20, 21, 22] ad1) ++ bk cyC cyI cyO [0, 1, 2, 3, 4, 5, 6, 7, 8, 9, 10, 11, 12, 13, 14, 15, 16, 17, 18, 19, 20, 21, 22] ad2) ++ bk cyC cyI cyO [0, 1, 2, 3, 4, 5, 6, 7, 8, 9, 10, 11, 12, 13, 14, 15, 16, 17, 18, 19, 20, 21, 22] ad3) ++ bk cyC cyI cyO [0, 1, 2, 3, 4, 5, 6, 7, 8, 9, 10, 11, 12, 13, 14, 15, 16, 17, 18, 19, 20, 21, 22] ad5) ++ bk cyC cyI cyO [0, 1, 2, 3, 4, 5, 6, 7, 8, 9, 10, 11, 12, 13, 14, 15, 16, 17, 18, 19, 20, 21, 22] ad6)) hP hD hk1 hFc hP1 hD1
  generalize H1 = H at hP hS ⊢
  have hP : va_P (dC, dI) vwCl ((((((([(q4, .inl (cyO, 4, .inr (.inr (.inr (.inr (va_up (va_up (fun _ => none) 0 (some q5)) 1 (some q6))))))), (h0, .inr (7, [.ref q1, .ref q2, .ref q4, .int 0, .ref q3, .int 0, .null]))] ++ bk cyC cyI cyO [0, 1, 2, 3, 4, 5, 6, 7, 8, 9, 10, 11, 12, 13, 14, 15, 16, 17, 18, 19, 20, 21, 22] ad1) ++ bk cyC cyI cyO [0, 1, 2, 3, 4, 5, 6, 7, 8, 9, 10, 11, 12, 13, 14, 15, 16, 17, 18, 19, 20, 21, 22] ad2) ++ bk cyC cyI cyO [0, 1, 2, 3, 4, 5, 6, 7, 8, 9, 10, 11, 12, 13, 14, 15, 16, 17, 18, 19, 20, 21, 22] ad3) ++ bk cyC cyI cyO [0, 1, 2, 3, 4, 5, 6, 7, 8, 9, 10, 11, 12, 13, 14, 15, 16, 17, 18, 19, 20, 21, 22] ad5) ++ bk cyC cyI cyO [0, 1, 2, 3, 4, 5, 6, 7, 8, 9, 10, 11, 12, 13, 14, 15, 16, 17, 18, 19, 20, 21, 22] ad6) ++ bk cyC cyI cyO [0, 1, 2, 3, 4, 5, 6, 7, 8, 9, 10, 11, 12, 13, 14, 15, 16, 17, 18, 19, 20, 21, 22] ad7)) H := hP
  have hD : va_D A ((((((([(q4, .inl (cyO, 4, .inr (.inr (.inr (.inr (va_up (va_up (fun _ => none) 0 (some q5)) 1 (some q6))))))), (h0, .inr (7, [.ref q1, .ref q2, .ref q4, .int 0, .ref q3, .int 0, .null]))] ++ bk cyC cyI cyO [0, 1, 2, 3, 4, 5, 6, 7, 8, 9, 10, 11, 12, 13, 14, 15, 16, 17, 18, 19, 20, 21, 22] ad1) ++ bk cyC cyI cyO [0, 1, 2, 3, 4, 5, 6, 7, 8, 9, 10, 11, 12, 13, 14, 15, 16, 17, 18, 19, 20, 21, 22] ad2) ++ bk cyC cyI cyO [0, 1, 2, 3, 4, 5, 6, 7, 8, 9, 10, 11, 12, 13, 14, 15, 16, 17, 18, 19, 20, 21, 22] ad3) ++ bk cyC cyI cyO [0, 1, 2, 3, 4, 5, 6, 7, 8, 9, 10, 11, 12, 13, 14, 15, 16, 17, 18, 19, 20, 21, 22] ad5) ++ bk cyC cyI cyO [0, 1, 2, 3, 4, 5, 6, 7, 8, 9, 10, 11, 12, 13, 14, 15, 16, 17, 18, 19, 20, 21, 22] ad6) ++ bk cyC cyI cyO [0, 1, 2, 3, 4, 5, 6, 7, 8, 9, 10, 11, 12, 13, 14, 15, 16, 17, 18, 19, 20, 21, 22] ad7)) := hD
  obtain ⟨kv, vs, hkv⟩ : ∃ (kv : Nat) (vs : List Value), ((((((([(q4, .inl (cyO, 4, .inr (.inr (.inr (.inr (va_up (va_up (fun _ => none) 0 (some q5)) 1 (some q6))))))), (h0, .inr (7, [.ref q1, .ref q2, .ref q4, .int 0, .ref q3, .int 0, .null]))] ++ bk cyC cyI cyO [0, 1, 2, 3, 4, 5, 6, 7, 8, 9, 10, 11, 12, 13, 14, 15, 16, 17, 18, 19, 20, 21, 22] ad1) ++ bk cyC cyI cyO [0, 1, 2, 3, 4, 5, 6, 7, 8, 9, 10, 11, 12, 13, 14, 15, 16, 17, 18, 19, 20, 21, 22] ad2) ++ bk cyC cyI cyO [0, 1, 2, 3, 4, 5, 6, 7, 8, 9, 10, 11, 12, 13, 14, 15, 16, 17, 18, 19, 20, 21, 22] ad3) ++ bk cyC cyI cyO [0, 1, 2, 3, 4, 5, 6, 7, 8, 9, 10, 11, 12, 13, 14, 15, 16, 17, 18, 19, 20, 21, 22] ad5) ++ bk cyC cyI cyO [0, 1, 2, 3, 4, 5, 6, 7, 8, 9, 10, 11, 12, 13, 14, 15, 16, 17, 18, 19, 20, 21, 22] ad6) ++ bk cyC cyI cyO [0, 1, 2, 3, 4, 5, 6, 7, 8, 9, 10, 11, 12, 13, 14, 15, 16, 17, 18, 19, 20, 21, 22] ad7))[kv]? = some (q7, .inr (3, vs)) := by
    obtain ⟨kv, hkv⟩ := List.getElem?_of_mem (l := (((((([(q4, .inl (cyO, 4, .inr (.inr (.inr (.inr (va_up (va_up (fun _ => none) 0 (some q5)) 1 (some q6))))))), (h0, .inr (7, [.ref q1, .ref q2, .ref q4, .int 0, .ref q3, .int 0, .null]))] ++ bk cyC cyI cyO [0, 1, 2, 3, 4, 5, 6, 7, 8, 9, 10, 11, 12, 13, 14, 15, 16, 17, 18, 19, 20, 21, 22] ad1) ++ bk cyC cyI cyO [0, 1, 2, 3, 4, 5, 6, 7, 8, 9, 10, 11, 12, 13, 14, 15, 16, 17, 18, 19, 20, 21, 22] ad2) ++ bk cyC cyI cyO [0, 1, 2, 3, 4, 5, 6, 7, 8, 9, 10, 11, 12, 13, 14, 15, 16, 17, 18, 19, 20, 21, 22] ad3) ++ bk cyC cyI cyO [0, 1, 2, 3, 4, 5, 6, 7, 8, 9, 10, 11, 12, 13, 14, 15, 16, 17, 18, 19, 20, 21, 22] ad5) ++ bk cyC cyI cyO [0, 1, 2, 3, 4, 5, 6, 7, 8, 9, 10, 11, 12, 13, 14, 15, 16, 17, 18, 19, 20, 21, 22] ad6) ++ bk cyC cyI cyO [0, 1, 2, 3, 4, 5, 6, 7, 8, 9, 10, 11, 12, 13, 14, 15, 16, 17, 18, 19, 20, 21, 22] ad7)) (a := (q7, cE cyC cyI cyO (fun _ c => ad7 c) SI 0 0)) (by rw [← had_ad7]; simp [bk, List.range, List.range.loop])
    exact ⟨kv, _, hkv⟩
  refine va_astq (r := (RX3, TX3, 11)) hx hb hK hP hD hS 0 2 kv 3 rfl rfl hkv rfl (by unfold vp_in; decide) dkX7_64 (fun H locs hP hD hS => ?_)
  have hP : va_P (dC, dI) vwCl ((((((([(q4, .inl (cyO, 4, .inr (.inr (.inr (.inr (va_up (va_up (va_up (fun _ => none) 0 (some q5)) 1 (some q6)) 2 (some q7))))))), (h0, .inr (7, [.ref q1, .ref q2, .ref q4, .int 0, .ref q3, .int 0, .null]))] ++ bk cyC cyI cyO [0, 1, 2, 3, 4, 5, 6, 7, 8, 9, 10, 11, 12, 13, 14, 15, 16, 17, 18, 19, 20, 21, 22] ad1) ++ bk cyC cyI cyO [0, 1, 2, 3, 4, 5, 6, 7, 8, 9, 10, 11, 12, 13, 14, 15, 16, 17, 18, 19, 20, 21, 22] ad2) ++ bk cyC cyI cyO [0, 1, 2, 3, 4, 5, 6, 7, 8, 9, 10, 11, 12, 13, 14, 15, 16, 17, 18, 19, 20, 21, 22] ad3) ++ bk cyC cyI cyO [0, 1, 2, 3, 4, 5, 6, 7, 8, 9, 10, 11, 12, 13, 14, 15, 16, 17, 18, 19, 20, 21, 22] ad5) ++ bk cyC cyI cyO [0, 1, 2, 3, 4, 5, 6, 7, 8, 9, 10, 11, 12, 13, 14, 15, 16, 17, 18, 19, 20, 21, 22] ad6) ++ bk cyC cyI cyO [0, 1, 2, 3, 4, 5, 6, 7, 8, 9, 10, 11, 12, 13, 14, 15, 16, 17, 18, 19, 20, 21, 22] ad7)) H := hP
  have hD : va_D A ((((((([(q4, .inl (cyO, 4, .inr (.inr (.inr (.inr (va_up (va_up (va_up (fun _ => none) 0 (some q5)) 1 (some q6)) 2 (some q7))))))), (h0, .inr (7, [.ref q1, .ref q2, .ref q4, .int 0, .ref q3, .int 0, .null]))] ++ bk cyC cyI cyO [0, 1, 2, 3, 4, 5, 6, 7, 8, 9, 10, 11, 12, 13, 14, 15, 16, 17, 18, 19, 20, 21, 22] ad1) ++ bk cyC cyI cyO [0, 1, 2, 3, 4, 5, 6, 7, 8, 9, 10, 11, 12, 13, 14, 15, 16, 17, 18, 19, 20, 21, 22] ad2) ++ bk cyC cyI cyO [0, 1, 2, 3, 4, 5, 6, 7, 8, 9, 10, 11, 12, 13, 14, 15, 16, 17, 18, 19, 20, 21, 22] ad3) ++ bk cyC cyI cyO [0, 1, 2, 3, 4, 5, 6, 7, 8, 9, 10, 11, 12, 13, 14, 15, 16, 17, 18, 19, 20, 21, 22] ad5) ++ bk cyC cyI cyO [0, 1, 2, 3, 4, 5, 6, 7, 8, 9, 10, 11, 12, 13, 14, 15, 16, 17, 18, 19, 20, 21, 22] ad6) ++ bk cyC cyI cyO [0, 1, 2, 3, 4, 5, 6, 7, 8, 9, 10, 11, 12, 13, 14, 15, 16, 17, 18, 19, 20, 21, 22] ad7)) := hD
  refine lv_iinc (v := 3) (lv' := [(1, .int 3), (0, .ref h0)]) hx hb dkX7_65 hl (k := 0) rfl (by decide) (by decide) rfl (fun ls hl => ?_)
  refine lv_goto (tgt := 47) hx hb dkX7_68 (by decide) ?_
  refine lv_iload_n hx hb dkX7_47 rfl (lv_at hl 0 rfl) ?_
  refine lv_iconst (v := 4) hx hb dkX7_48 (by decide) ?_
  refine lv_icmp_ge (tgt := 71) hx hb dkX7_49 (by decide) (fun q => absurd q (by decide)) (fun _ => ?_)
  refine lv_aload_n hx hb dkX7_52 rfl (lv_at hl 1 rfl) ?_
  refine va_get (D := (dC, dI)) (ci := 7) (v := .ref q4) (C := RX7) (T := TX7) (N := 7) hx hb hts (ob_in (c := 23) (by decide) rfl) hown hK hP 1 rfl rfl 2 (by decide) (hts _ (GW_in (i := 210) (w := .fieldLink RX7 22 "TicketWindows" "past" "[LTicketWindows$Office;") (by decide +kernel))) (fun _ h9 => h9) rfl dkX7_53 ?_
  refine lv_iload_n hx hb dkX7_56 rfl (lv_at hl 0 rfl) ?_
  refine va_new (ci := 3) (fs := [.int 0, .int 0, .null, .null, .null, .null, .null, .null, .int 0, .int 0, .int 0]) (C := RX3) (T := TX3) (N := 11) hx hb hts (ob_in (c := 0) (by decide) rfl) tyX3 tyX3_ok hown (hts _ (GW_in (i := 33) (w := .classLink RX7 7 RX3) (by decide +kernel))) (hts _ (GW_in (i := 34) (w := .instantiable RX3 11) (by decide +kernel))) (hts _ (GW_in (i := 16) (w := .initialized RX3) (by decide +kernel))) hK hP hD hS hA rfl (fun j hj => by rcases (show j = 0 ∨ j = 1 ∨ j = 2 ∨ j = 3 ∨ j = 4 ∨ j = 5 ∨ j = 6 ∨ j = 7 ∨ j = 8 ∨ j = 9 ∨ j = 10 by omega) with rfl | rfl | rfl | rfl | rfl | rfl | rfl | rfl | rfl | rfl | rfl <;> rfl) (Nat.le_of_ble_eq_true rfl) (Nat.le_of_ble_eq_true rfl) dkX7_57 (fun q8 H hP hD hS => ?_)
  refine lv_dup hx hb dkX7_60 rfl ?_
  have hPc := jn_P (wr := (((((([(q4, .inl (cyO, 4, .inr (.inr (.inr (.inr (va_up (va_up (va_up (fun _ => none) 0 (some q5)) 1 (some q6)) 2 (some q7))))))), (h0, .inr (7, [.ref q1, .ref q2, .ref q4, .int 0, .ref q3, .int 0, .null]))] ++ bk cyC cyI cyO [0, 1, 2, 3, 4, 5, 6, 7, 8, 9, 10, 11, 12, 13, 14, 15, 16, 17, 18, 19, 20, 21, 22] ad1) ++ bk cyC cyI cyO [0, 1, 2, 3, 4, 5, 6, 7, 8, 9, 10, 11, 12, 13, 14, 15, 16, 17, 18, 19, 20, 21, 22] ad2) ++ bk cyC cyI cyO [0, 1, 2, 3, 4, 5, 6, 7, 8, 9, 10, 11, 12, 13, 14, 15, 16, 17, 18, 19, 20, 21, 22] ad3) ++ bk cyC cyI cyO [0, 1, 2, 3, 4, 5, 6, 7, 8, 9, 10, 11, 12, 13, 14, 15, 16, 17, 18, 19, 20, 21, 22] ad5) ++ bk cyC cyI cyO [0, 1, 2, 3, 4, 5, 6, 7, 8, 9, 10, 11, 12, 13, 14, 15, 16, 17, 18, 19, 20, 21, 22] ad6) ++ bk cyC cyI cyO [0, 1, 2, 3, 4, 5, 6, 7, 8, 9, 10, 11, 12, 13, 14, 15, 16, 17, 18, 19, 20, 21, 22] ad7)) hP
  have hbq := hAB _ (jn_D (wr := (((((([(q4, .inl (cyO, 4, .inr (.inr (.inr (.inr (va_up (va_up (va_up (fun _ => none) 0 (some q5)) 1 (some q6)) 2 (some q7))))))), (h0, .inr (7, [.ref q1, .ref q2, .ref q4, .int 0, .ref q3, .int 0, .null]))] ++ bk cyC cyI cyO [0, 1, 2, 3, 4, 5, 6, 7, 8, 9, 10, 11, 12, 13, 14, 15, 16, 17, 18, 19, 20, 21, 22] ad1) ++ bk cyC cyI cyO [0, 1, 2, 3, 4, 5, 6, 7, 8, 9, 10, 11, 12, 13, 14, 15, 16, 17, 18, 19, 20, 21, 22] ad2) ++ bk cyC cyI cyO [0, 1, 2, 3, 4, 5, 6, 7, 8, 9, 10, 11, 12, 13, 14, 15, 16, 17, 18, 19, 20, 21, 22] ad3) ++ bk cyC cyI cyO [0, 1, 2, 3, 4, 5, 6, 7, 8, 9, 10, 11, 12, 13, 14, 15, 16, 17, 18, 19, 20, 21, 22] ad5) ++ bk cyC cyI cyO [0, 1, 2, 3, 4, 5, 6, 7, 8, 9, 10, 11, 12, 13, 14, 15, 16, 17, 18, 19, 20, 21, 22] ad6) ++ bk cyC cyI cyO [0, 1, 2, 3, 4, 5, 6, 7, 8, 9, 10, 11, 12, 13, 14, 15, 16, 17, 18, 19, 20, 21, 22] ad7)) hD)
  have hFc : ∀ x, va_A [(q8, .inr (3, [.int 0, .int 0, .null, .null, .null, .null, .null, .null, .int 0, .int 0, .int 0]))] H.size x → A x := fun x hx => by
    rcases hx with ⟨k, e, hx⟩ | hx
    · obtain ⟨hk, hx2⟩ := List.getElem?_eq_some_iff.mp hx
      simp only [List.length_cons, List.length_nil] at hk
      obtain rfl : k = 0 := by omega
      cases hx2
      exact jn_D (wr := (((((([(q4, .inl (cyO, 4, .inr (.inr (.inr (.inr (va_up (va_up (va_up (fun _ => none) 0 (some q5)) 1 (some q6)) 2 (some q7))))))), (h0, .inr (7, [.ref q1, .ref q2, .ref q4, .int 0, .ref q3, .int 0, .null]))] ++ bk cyC cyI cyO [0, 1, 2, 3, 4, 5, 6, 7, 8, 9, 10, 11, 12, 13, 14, 15, 16, 17, 18, 19, 20, 21, 22] ad1) ++ bk cyC cyI cyO [0, 1, 2, 3, 4, 5, 6, 7, 8, 9, 10, 11, 12, 13, 14, 15, 16, 17, 18, 19, 20, 21, 22] ad2) ++ bk cyC cyI cyO [0, 1, 2, 3, 4, 5, 6, 7, 8, 9, 10, 11, 12, 13, 14, 15, 16, 17, 18, 19, 20, 21, 22] ad3) ++ bk cyC cyI cyO [0, 1, 2, 3, 4, 5, 6, 7, 8, 9, 10, 11, 12, 13, 14, 15, 16, 17, 18, 19, 20, 21, 22] ad5) ++ bk cyC cyI cyO [0, 1, 2, 3, 4, 5, 6, 7, 8, 9, 10, 11, 12, 13, 14, 15, 16, 17, 18, 19, 20, 21, 22] ad6) ++ bk cyC cyI cyO [0, 1, 2, 3, 4, 5, 6, 7, 8, 9, 10, 11, 12, 13, 14, 15, 16, 17, 18, 19, 20, 21, 22] ad7)) hD
    · exact hA x (Nat.le_trans hS.1 hx)
  refine va_callv (va_runI (As := []) (rest := [.ref q8, .int 3, .ref q4]) ⟨hx, hb, hml, hown, hts⟩ (k_Office l dC dI cyC cyI cyO rho Bd Ln xs q8 H.size) (cwI 0 hts (fun w hw => by
      rcases List.mem_cons.mp hw with h | h
      · rw [h]; exact GW_good _ (GW_in (i := 37) (by decide +kernel))
      · exact GW_good w h) rfl rfl rfl (hts _ (GW_in (i := 16) (w := .initialized RX3) (by decide +kernel))) (hts _ (GW_in (i := 35) (w := .methodLink RX7 9 yX3_init) (by decide +kernel))) (hts _ (GW_in (i := 36) (w := .instanceMethod yX3_init) (by decide +kernel))) rfl (by decide +kernel) ⟨Nat.le_of_ble_eq_true rfl, Nat.le_of_ble_eq_true rfl⟩) ⟨fun a U g mk h => ⟨h.1, h.2.1, h.2.2.1, h.2.2.2.1, St0_calling h.2.2.2.2 g mk a⟩, fun U hU hW => ⟨rfl, by rw [hU], ⟨⟨hbq, Nat.le_trans hBs hS.1⟩, hro⟩, by rw [hU]; exact hPc, St0_next hSt hro (hSB hS) hU hW⟩⟩ rfl rfl hl.1 rfl (lv_room (Nat.le_of_ble_eq_true rfl)) dkX7_61 ⟨Nat.le_of_ble_eq_true rfl, Nat.le_of_ble_eq_true rfl⟩) hS (fun q _ h => hFc q h) hFc (fun ad8 t H1 locs ht hvm _ hB hz1 hk1 hS => ?_)
  obtain ⟨hP1, hD1, had_ad8⟩ := hB
  rw [ht] at hP1
  obtain ⟨hP, hD⟩ := jn (wr := (((((([(q4, .inl (cyO, 4, .inr (.inr (.inr (.inr (va_up (va_up (va_up (fun _ => none) 0 (some q5)) 1 (some q6)) 2 (some q7))))))), (h0, .inr (7, [.ref q1, .ref q2, .ref q4, .int 0, .ref q3, .int 0, .null]))] ++ bk cyC cyI cyO [0, 1, 2, 3, 4, 5, 6, 7, 8, 9, 10, 11, 12, 13, 14, 15, 16, 17, 18, 19, 20, 21, 22] ad1) ++ bk cyC cyI cyO [0, 1, 2, 3, 4, 5, 6, 7, 8, 9, 10, 11, 12, 13, 14, 15, 16, 17, 18, 19, 20, 21, 22] ad2) ++ bk cyC cyI cyO [0, 1, 2, 3, 4, 5, 6, 7, 8, 9, 10, 11, 12, 13, 14, 15, 16, 17, 18, 19, 20, 21, 22] ad3) ++ bk cyC cyI cyO [0, 1, 2, 3, 4, 5, 6, 7, 8, 9, 10, 11, 12, 13, 14, 15, 16, 17, 18, 19, 20, 21, 22] ad5) ++ bk cyC cyI cyO [0, 1, 2, 3, 4, 5, 6, 7, 8, 9, 10, 11, 12, 13, 14, 15, 16, 17, 18, 19, 20, 21, 22] ad6) ++ bk cyC cyI cyO [0, 1, 2, 3, 4, 5, 6, 7, 8, 9, 10, 11, 12, 13, 14, 15, 16, 17, 18, 19, 20, 21, 22] ad7)) hP hD hk1 hFc hP1 hD1
  generalize H1 = H at hP hS ⊢
  have hP : va_P (dC, dI) vwCl (((((((([(q4, .inl (cyO, 4, .inr (.inr (.inr (.inr (va_up (va_up (va_up (fun _ => none) 0 (some q5)) 1 (some q6)) 2 (some q7))))))), (h0, .inr (7, [.ref q1, .ref q2, .ref q4, .int 0, .ref q3, .int 0, .null]))] ++ bk cyC cyI cyO [0, 1, 2, 3, 4, 5, 6, 7, 8, 9, 10, 11, 12, 13, 14, 15, 16, 17, 18, 19, 20, 21, 22] ad1) ++ bk cyC cyI cyO [0, 1, 2, 3, 4, 5, 6, 7, 8, 9, 10, 11, 12, 13, 14, 15, 16, 17, 18, 19, 20, 21, 22] ad2) ++ bk cyC cyI cyO [0, 1, 2, 3, 4, 5, 6, 7, 8, 9, 10, 11, 12, 13, 14, 15, 16, 17, 18, 19, 20, 21, 22] ad3) ++ bk cyC cyI cyO [0, 1, 2, 3, 4, 5, 6, 7, 8, 9, 10, 11, 12, 13, 14, 15, 16, 17, 18, 19, 20, 21, 22] ad5) ++ bk cyC cyI cyO [0, 1, 2, 3, 4, 5, 6, 7, 8, 9, 10, 11, 12, 13, 14, 15, 16, 17, 18, 19, 20, 21, 22] ad6) ++ bk cyC cyI cyO [0, 1, 2, 3, 4, 5, 6, 7, 8, 9, 10, 11, 12, 13, 14, 15, 16, 17, 18, 19, 20, 21, 22] ad7) ++ bk cyC cyI cyO [0, 1, 2, 3, 4, 5, 6, 7, 8, 9, 10, 11, 12, 13, 14, 15, 16, 17, 18, 19, 20, 21, 22] ad8)) H := hP
  have hD : va_D A (((((((([(q4, .inl (cyO, 4, .inr (.inr (.inr (.inr (va_up (va_up (va_up (fun _ => none) 0 (some q5)) 1 (some q6)) 2 (some q7))))))), (h0, .inr (7, [.ref q1, .ref q2, .ref q4, .int 0, .ref q3, .int 0, .null]))] ++ bk cyC cyI cyO [0, 1, 2, 3, 4, 5, 6, 7, 8, 9, 10, 11, 12, 13, 14, 15, 16, 17, 18, 19, 20, 21, 22] ad1) ++ bk cyC cyI cyO [0, 1, 2, 3, 4, 5, 6, 7, 8, 9, 10, 11, 12, 13, 14, 15, 16, 17, 18, 19, 20, 21, 22] ad2) ++ bk cyC cyI cyO [0, 1, 2, 3, 4, 5, 6, 7, 8, 9, 10, 11, 12, 13, 14, 15, 16, 17, 18, 19, 20, 21, 22] ad3) ++ bk cyC cyI cyO [0, 1, 2, 3, 4, 5, 6, 7, 8, 9, 10, 11, 12, 13, 14, 15, 16, 17, 18, 19, 20, 21, 22] ad5) ++ bk cyC cyI cyO [0, 1, 2, 3, 4, 5, 6, 7, 8, 9, 10, 11, 12, 13, 14, 15, 16, 17, 18, 19, 20, 21, 22] ad6) ++ bk cyC cyI cyO [0, 1, 2, 3, 4, 5, 6, 7, 8, 9, 10, 11, 12, 13, 14, 15, 16, 17, 18, 19, 20, 21, 22] ad7) ++ bk cyC cyI cyO [0, 1, 2, 3, 4, 5, 6, 7, 8, 9, 10, 11, 12, 13, 14, 15, 16, 17, 18, 19, 20, 21, 22] ad8)) := hD
  obtain ⟨kv, vs, hkv⟩ : ∃ (kv : Nat) (vs : List Value), (((((((([(q4, .inl (cyO, 4, .inr (.inr (.inr (.inr (va_up (va_up (va_up (fun _ => none) 0 (some q5)) 1 (some q6)) 2 (some q7))))))), (h0, .inr (7, [.ref q1, .ref q2, .ref q4, .int 0, .ref q3, .int 0, .null]))] ++ bk cyC cyI cyO [0, 1, 2, 3, 4, 5, 6, 7, 8, 9, 10, 11, 12, 13, 14, 15, 16, 17, 18, 19, 20, 21, 22] ad1) ++ bk cyC cyI cyO [0, 1, 2, 3, 4, 5, 6, 7, 8, 9, 10, 11, 12, 13, 14, 15, 16, 17, 18, 19, 20, 21, 22] ad2) ++ bk cyC cyI cyO [0, 1, 2, 3, 4, 5, 6, 7, 8, 9, 10, 11, 12, 13, 14, 15, 16, 17, 18, 19, 20, 21, 22] ad3) ++ bk cyC cyI cyO [0, 1, 2, 3, 4, 5, 6, 7, 8, 9, 10, 11, 12, 13, 14, 15, 16, 17, 18, 19, 20, 21, 22] ad5) ++ bk cyC cyI cyO [0, 1, 2, 3, 4, 5, 6, 7, 8, 9, 10, 11, 12, 13, 14, 15, 16, 17, 18, 19, 20, 21, 22] ad6) ++ bk cyC cyI cyO [0, 1, 2, 3, 4, 5, 6, 7, 8, 9, 10, 11, 12, 13, 14, 15, 16, 17, 18, 19, 20, 21, 22] ad7) ++ bk cyC cyI cyO [0, 1, 2, 3, 4, 5, 6, 7, 8, 9, 10, 11, 12, 13, 14, 15, 16, 17, 18, 19, 20, 21, 22] ad8))[kv]? = some (q8, .inr (3, vs)) := by
    obtain ⟨kv, hkv⟩ := List.getElem?_of_mem (l := ((((((([(q4, .inl (cyO, 4, .inr (.inr (.inr (.inr (va_up (va_up (va_up (fun _ => none) 0 (some q5)) 1 (some q6)) 2 (some q7))))))), (h0, .inr (7, [.ref q1, .ref q2, .ref q4, .int 0, .ref q3, .int 0, .null]))] ++ bk cyC cyI cyO [0, 1, 2, 3, 4, 5, 6, 7, 8, 9, 10, 11, 12, 13, 14, 15, 16, 17, 18, 19, 20, 21, 22] ad1) ++ bk cyC cyI cyO [0, 1, 2, 3, 4, 5, 6, 7, 8, 9, 10, 11, 12, 13, 14, 15, 16, 17, 18, 19, 20, 21, 22] ad2) ++ bk cyC cyI cyO [0, 1, 2, 3, 4, 5, 6, 7, 8, 9, 10, 11, 12, 13, 14, 15, 16, 17, 18, 19, 20, 21, 22] ad3) ++ bk cyC cyI cyO [0, 1, 2, 3, 4, 5, 6, 7, 8, 9, 10, 11, 12, 13, 14, 15, 16, 17, 18, 19, 20, 21, 22] ad5) ++ bk cyC cyI cyO [0, 1, 2, 3, 4, 5, 6, 7, 8, 9, 10, 11, 12, 13, 14, 15, 16, 17, 18, 19, 20, 21, 22] ad6) ++ bk cyC cyI cyO [0, 1, 2, 3, 4, 5, 6, 7, 8, 9, 10, 11, 12, 13, 14, 15, 16, 17, 18, 19, 20, 21, 22] ad7) ++ bk cyC cyI cyO [0, 1, 2, 3, 4, 5, 6, 7, 8, 9, 10, 11, 12, 13, 14, 15, 16, 17, 18, 19, 20, 21, 22] ad8)) (a := (q8, cE cyC cyI cyO (fun _ c => ad8 c) SI 0 0)) (by rw [← had_ad8]; simp [bk, List.range, List.range.loop])
    exact ⟨kv, _, hkv⟩
  refine va_astq (r := (RX3, TX3, 11)) hx hb hK hP hD hS 0 2 kv 3 rfl rfl hkv rfl (by unfold vp_in; decide) dkX7_64 (fun H locs hP hD hS => ?_)
  have hP : va_P (dC, dI) vwCl (((((((([(q4, .inl (cyO, 4, .inr (.inr (.inr (.inr (va_up (va_up (va_up (va_up (fun _ => none) 0 (some q5)) 1 (some q6)) 2 (some q7)) 3 (some q8))))))), (h0, .inr (7, [.ref q1, .ref q2, .ref q4, .int 0, .ref q3, .int 0, .null]))] ++ bk cyC cyI cyO [0, 1, 2, 3, 4, 5, 6, 7, 8, 9, 10, 11, 12, 13, 14, 15, 16, 17, 18, 19, 20, 21, 22] ad1) ++ bk cyC cyI cyO [0, 1, 2, 3, 4, 5, 6, 7, 8, 9, 10, 11, 12, 13, 14, 15, 16, 17, 18, 19, 20, 21, 22] ad2) ++ bk cyC cyI cyO [0, 1, 2, 3, 4, 5, 6, 7, 8, 9, 10, 11, 12, 13, 14, 15, 16, 17, 18, 19, 20, 21, 22] ad3) ++ bk cyC cyI cyO [0, 1, 2, 3, 4, 5, 6, 7, 8, 9, 10, 11, 12, 13, 14, 15, 16, 17, 18, 19, 20, 21, 22] ad5) ++ bk cyC cyI cyO [0, 1, 2, 3, 4, 5, 6, 7, 8, 9, 10, 11, 12, 13, 14, 15, 16, 17, 18, 19, 20, 21, 22] ad6) ++ bk cyC cyI cyO [0, 1, 2, 3, 4, 5, 6, 7, 8, 9, 10, 11, 12, 13, 14, 15, 16, 17, 18, 19, 20, 21, 22] ad7) ++ bk cyC cyI cyO [0, 1, 2, 3, 4, 5, 6, 7, 8, 9, 10, 11, 12, 13, 14, 15, 16, 17, 18, 19, 20, 21, 22] ad8)) H := hP
  have hD : va_D A (((((((([(q4, .inl (cyO, 4, .inr (.inr (.inr (.inr (va_up (va_up (va_up (va_up (fun _ => none) 0 (some q5)) 1 (some q6)) 2 (some q7)) 3 (some q8))))))), (h0, .inr (7, [.ref q1, .ref q2, .ref q4, .int 0, .ref q3, .int 0, .null]))] ++ bk cyC cyI cyO [0, 1, 2, 3, 4, 5, 6, 7, 8, 9, 10, 11, 12, 13, 14, 15, 16, 17, 18, 19, 20, 21, 22] ad1) ++ bk cyC cyI cyO [0, 1, 2, 3, 4, 5, 6, 7, 8, 9, 10, 11, 12, 13, 14, 15, 16, 17, 18, 19, 20, 21, 22] ad2) ++ bk cyC cyI cyO [0, 1, 2, 3, 4, 5, 6, 7, 8, 9, 10, 11, 12, 13, 14, 15, 16, 17, 18, 19, 20, 21, 22] ad3) ++ bk cyC cyI cyO [0, 1, 2, 3, 4, 5, 6, 7, 8, 9, 10, 11, 12, 13, 14, 15, 16, 17, 18, 19, 20, 21, 22] ad5) ++ bk cyC cyI cyO [0, 1, 2, 3, 4, 5, 6, 7, 8, 9, 10, 11, 12, 13, 14, 15, 16, 17, 18, 19, 20, 21, 22] ad6) ++ bk cyC cyI cyO [0, 1, 2, 3, 4, 5, 6, 7, 8, 9, 10, 11, 12, 13, 14, 15, 16, 17, 18, 19, 20, 21, 22] ad7) ++ bk cyC cyI cyO [0, 1, 2, 3, 4, 5, 6, 7, 8, 9, 10, 11, 12, 13, 14, 15, 16, 17, 18, 19, 20, 21, 22] ad8)) := hD
  refine lv_iinc (v := 4) (lv' := [(1, .int 4), (0, .ref h0)]) hx hb dkX7_65 hl (k := 0) rfl (by decide) (by decide) rfl (fun ls hl => ?_)
  refine lv_goto (tgt := 47) hx hb dkX7_68 (by decide) ?_
  refine lv_iload_n hx hb dkX7_47 rfl (lv_at hl 0 rfl) ?_
  refine lv_iconst (v := 4) hx hb dkX7_48 (by decide) ?_
  refine lv_icmp_ge (tgt := 71) hx hb dkX7_49 (by decide) (fun _ => ?_) (fun q => absurd (by decide) q)
  refine lv_aload_n hx hb dkX7_71 rfl (lv_at hl 1 rfl) ?_
  refine va_new (ci := 4) (fs := [.int 0, .int 0, .null, .null, .null, .null, .int 0]) (C := RX4) (T := TX4) (N := 7) hx hb hts (ob_in (c := 25) (by decide) rfl) tyX4 tyX4_ok hown (hts _ (GW_in (i := 181) (w := .classLink RX7 26 RX4) (by decide +kernel))) (hts _ (GW_in (i := 182) (w := .instantiable RX4 7) (by decide +kernel))) (hts _ (GW_in (i := 22) (w := .initialized RX4) (by decide +kernel))) hK hP hD hS hA rfl (fun j hj => by rcases (show j = 0 ∨ j = 1 ∨ j = 2 ∨ j = 3 ∨ j = 4 ∨ j = 5 ∨ j = 6 by omega) with rfl | rfl | rfl | rfl | rfl | rfl | rfl <;> rfl) (Nat.le_of_ble_eq_true rfl) (Nat.le_of_ble_eq_true rfl) dkX7_72 (fun q9 H hP hD hS => ?_)
  refine lv_dup hx hb dkX7_75 rfl ?_
  have hPc := jn_P (wr := ((((((([(q4, .inl (cyO, 4, .inr (.inr (.inr (.inr (va_up (va_up (va_up (va_up (fun _ => none) 0 (some q5)) 1 (some q6)) 2 (some q7)) 3 (some q8))))))), (h0, .inr (7, [.ref q1, .ref q2, .ref q4, .int 0, .ref q3, .int 0, .null]))] ++ bk cyC cyI cyO [0, 1, 2, 3, 4, 5, 6, 7, 8, 9, 10, 11, 12, 13, 14, 15, 16, 17, 18, 19, 20, 21, 22] ad1) ++ bk cyC cyI cyO [0, 1, 2, 3, 4, 5, 6, 7, 8, 9, 10, 11, 12, 13, 14, 15, 16, 17, 18, 19, 20, 21, 22] ad2) ++ bk cyC cyI cyO [0, 1, 2, 3, 4, 5, 6, 7, 8, 9, 10, 11, 12, 13, 14, 15, 16, 17, 18, 19, 20, 21, 22] ad3) ++ bk cyC cyI cyO [0, 1, 2, 3, 4, 5, 6, 7, 8, 9, 10, 11, 12, 13, 14, 15, 16, 17, 18, 19, 20, 21, 22] ad5) ++ bk cyC cyI cyO [0, 1, 2, 3, 4, 5, 6, 7, 8, 9, 10, 11, 12, 13, 14, 15, 16, 17, 18, 19, 20, 21, 22] ad6) ++ bk cyC cyI cyO [0, 1, 2, 3, 4, 5, 6, 7, 8, 9, 10, 11, 12, 13, 14, 15, 16, 17, 18, 19, 20, 21, 22] ad7) ++ bk cyC cyI cyO [0, 1, 2, 3, 4, 5, 6, 7, 8, 9, 10, 11, 12, 13, 14, 15, 16, 17, 18, 19, 20, 21, 22] ad8)) hP
  have hbq := hAB _ (jn_D (wr := ((((((([(q4, .inl (cyO, 4, .inr (.inr (.inr (.inr (va_up (va_up (va_up (va_up (fun _ => none) 0 (some q5)) 1 (some q6)) 2 (some q7)) 3 (some q8))))))), (h0, .inr (7, [.ref q1, .ref q2, .ref q4, .int 0, .ref q3, .int 0, .null]))] ++ bk cyC cyI cyO [0, 1, 2, 3, 4, 5, 6, 7, 8, 9, 10, 11, 12, 13, 14, 15, 16, 17, 18, 19, 20, 21, 22] ad1) ++ bk cyC cyI cyO [0, 1, 2, 3, 4, 5, 6, 7, 8, 9, 10, 11, 12, 13, 14, 15, 16, 17, 18, 19, 20, 21, 22] ad2) ++ bk cyC cyI cyO [0, 1, 2, 3, 4, 5, 6, 7, 8, 9, 10, 11, 12, 13, 14, 15, 16, 17, 18, 19, 20, 21, 22] ad3) ++ bk cyC cyI cyO [0, 1, 2, 3, 4, 5, 6, 7, 8, 9, 10, 11, 12, 13, 14, 15, 16, 17, 18, 19, 20, 21, 22] ad5) ++ bk cyC cyI cyO [0, 1, 2, 3, 4, 5, 6, 7, 8, 9, 10, 11, 12, 13, 14, 15, 16, 17, 18, 19, 20, 21, 22] ad6) ++ bk cyC cyI cyO [0, 1, 2, 3, 4, 5, 6, 7, 8, 9, 10, 11, 12, 13, 14, 15, 16, 17, 18, 19, 20, 21, 22] ad7) ++ bk cyC cyI cyO [0, 1, 2, 3, 4, 5, 6, 7, 8, 9, 10, 11, 12, 13, 14, 15, 16, 17, 18, 19, 20, 21, 22] ad8)) hD)
  have hFc : ∀ x, va_A [(q9, .inr (4, [.int 0, .int 0, .null, .null, .null, .null, .int 0]))] H.size x → A x := fun x hx => by
    rcases hx with ⟨k, e, hx⟩ | hx
    · obtain ⟨hk, hx2⟩ := List.getElem?_eq_some_iff.mp hx
      simp only [List.length_cons, List.length_nil] at hk
      obtain rfl : k = 0 := by omega
      cases hx2
      exact jn_D (wr := ((((((([(q4, .inl (cyO, 4, .inr (.inr (.inr (.inr (va_up (va_up (va_up (va_up (fun _ => none) 0 (some q5)) 1 (some q6)) 2 (some q7)) 3 (some q8))))))), (h0, .inr (7, [.ref q1, .ref q2, .ref q4, .int 0, .ref q3, .int 0, .null]))] ++ bk cyC cyI cyO [0, 1, 2, 3, 4, 5, 6, 7, 8, 9, 10, 11, 12, 13, 14, 15, 16, 17, 18, 19, 20, 21, 22] ad1) ++ bk cyC cyI cyO [0, 1, 2, 3, 4, 5, 6, 7, 8, 9, 10, 11, 12, 13, 14, 15, 16, 17, 18, 19, 20, 21, 22] ad2) ++ bk cyC cyI cyO [0, 1, 2, 3, 4, 5, 6, 7, 8, 9, 10, 11, 12, 13, 14, 15, 16, 17, 18, 19, 20, 21, 22] ad3) ++ bk cyC cyI cyO [0, 1, 2, 3, 4, 5, 6, 7, 8, 9, 10, 11, 12, 13, 14, 15, 16, 17, 18, 19, 20, 21, 22] ad5) ++ bk cyC cyI cyO [0, 1, 2, 3, 4, 5, 6, 7, 8, 9, 10, 11, 12, 13, 14, 15, 16, 17, 18, 19, 20, 21, 22] ad6) ++ bk cyC cyI cyO [0, 1, 2, 3, 4, 5, 6, 7, 8, 9, 10, 11, 12, 13, 14, 15, 16, 17, 18, 19, 20, 21, 22] ad7) ++ bk cyC cyI cyO [0, 1, 2, 3, 4, 5, 6, 7, 8, 9, 10, 11, 12, 13, 14, 15, 16, 17, 18, 19, 20, 21, 22] ad8)) hD
    · exact hA x (Nat.le_trans hS.1 hx)
  refine va_callv (va_runI (As := []) (rest := [.ref q9, .ref h0]) ⟨hx, hb, hml, hown, hts⟩ (k_Orders l dC dI cyC cyI cyO rho Bd Ln xs q9 H.size) (cwI 0 hts (fun w hw => by
      rcases List.mem_cons.mp hw with h | h
      · rw [h]; exact GW_good _ (GW_in (i := 185) (by decide +kernel))
      · exact GW_good w h) rfl rfl rfl (hts _ (GW_in (i := 22) (w := .initialized RX4) (by decide +kernel))) (hts _ (GW_in (i := 183) (w := .methodLink RX7 28 yX4_init) (by decide +kernel))) (hts _ (GW_in (i := 184) (w := .instanceMethod yX4_init) (by decide +kernel))) rfl (by decide +kernel) ⟨Nat.le_of_ble_eq_true rfl, Nat.le_of_ble_eq_true rfl⟩) ⟨fun a U g mk h => ⟨h.1, h.2.1, h.2.2.1, h.2.2.2.1, St0_calling h.2.2.2.2 g mk a⟩, fun U hU hW => ⟨rfl, by rw [hU], ⟨⟨hbq, Nat.le_trans hBs hS.1⟩, hro⟩, by rw [hU]; exact hPc, St0_next hSt hro (hSB hS) hU hW⟩⟩ rfl rfl hl.1 rfl (lv_room (Nat.le_of_ble_eq_true rfl)) dkX7_76 ⟨Nat.le_of_ble_eq_true rfl, Nat.le_of_ble_eq_true rfl⟩) hS (fun q _ h => hFc q h) hFc (fun ad9 t H1 locs ht hvm _ hB hz1 hk1 hS => ?_)
  obtain ⟨hP1, hD1, had_ad9⟩ := hB
  rw [ht] at hP1
  obtain ⟨hP, hD⟩ := jn (wr := ((((((([(q4, .inl (cyO, 4, .inr (.inr (.inr (.inr (va_up (va_up (va_up (va_up (fun _ => none) 0 (some q5)) 1 (some q6)) 2 (some q7)) 3 (some q8))))))), (h0, .inr (7, [.ref q1, .ref q2, .ref q4, .int 0, .ref q3, .int 0, .null]))] ++ bk cyC cyI cyO [0, 1, 2, 3, 4, 5, 6, 7, 8, 9, 10, 11, 12, 13, 14, 15, 16, 17, 18, 19, 20, 21, 22] ad1) ++ bk cyC cyI cyO [0, 1, 2, 3, 4, 5, 6, 7, 8, 9, 10, 11, 12, 13, 14, 15, 16, 17, 18, 19, 20, 21, 22] ad2) ++ bk cyC cyI cyO [0, 1, 2, 3, 4, 5, 6, 7, 8, 9, 10, 11, 12, 13, 14, 15, 16, 17, 18, 19, 20, 21, 22] ad3) ++ bk cyC cyI cyO [0, 1, 2, 3, 4, 5, 6, 7, 8, 9, 10, 11, 12, 13, 14, 15, 16, 17, 18, 19, 20, 21, 22] ad5) ++ bk cyC cyI cyO [0, 1, 2, 3, 4, 5, 6, 7, 8, 9, 10, 11, 12, 13, 14, 15, 16, 17, 18, 19, 20, 21, 22] ad6) ++ bk cyC cyI cyO [0, 1, 2, 3, 4, 5, 6, 7, 8, 9, 10, 11, 12, 13, 14, 15, 16, 17, 18, 19, 20, 21, 22] ad7) ++ bk cyC cyI cyO [0, 1, 2, 3, 4, 5, 6, 7, 8, 9, 10, 11, 12, 13, 14, 15, 16, 17, 18, 19, 20, 21, 22] ad8)) hP hD hk1 hFc hP1 hD1
  generalize H1 = H at hP hS ⊢
  have hP : va_P (dC, dI) vwCl ((((((((([(q4, .inl (cyO, 4, .inr (.inr (.inr (.inr (va_up (va_up (va_up (va_up (fun _ => none) 0 (some q5)) 1 (some q6)) 2 (some q7)) 3 (some q8))))))), (h0, .inr (7, [.ref q1, .ref q2, .ref q4, .int 0, .ref q3, .int 0, .null]))] ++ bk cyC cyI cyO [0, 1, 2, 3, 4, 5, 6, 7, 8, 9, 10, 11, 12, 13, 14, 15, 16, 17, 18, 19, 20, 21, 22] ad1) ++ bk cyC cyI cyO [0, 1, 2, 3, 4, 5, 6, 7, 8, 9, 10, 11, 12, 13, 14, 15, 16, 17, 18, 19, 20, 21, 22] ad2) ++ bk cyC cyI cyO [0, 1, 2, 3, 4, 5, 6, 7, 8, 9, 10, 11, 12, 13, 14, 15, 16, 17, 18, 19, 20, 21, 22] ad3) ++ bk cyC cyI cyO [0, 1, 2, 3, 4, 5, 6, 7, 8, 9, 10, 11, 12, 13, 14, 15, 16, 17, 18, 19, 20, 21, 22] ad5) ++ bk cyC cyI cyO [0, 1, 2, 3, 4, 5, 6, 7, 8, 9, 10, 11, 12, 13, 14, 15, 16, 17, 18, 19, 20, 21, 22] ad6) ++ bk cyC cyI cyO [0, 1, 2, 3, 4, 5, 6, 7, 8, 9, 10, 11, 12, 13, 14, 15, 16, 17, 18, 19, 20, 21, 22] ad7) ++ bk cyC cyI cyO [0, 1, 2, 3, 4, 5, 6, 7, 8, 9, 10, 11, 12, 13, 14, 15, 16, 17, 18, 19, 20, 21, 22] ad8) ++ bk cyC cyI cyO [25, 29, 26, 27, 28] ad9)) H := hP
  have hD : va_D A ((((((((([(q4, .inl (cyO, 4, .inr (.inr (.inr (.inr (va_up (va_up (va_up (va_up (fun _ => none) 0 (some q5)) 1 (some q6)) 2 (some q7)) 3 (some q8))))))), (h0, .inr (7, [.ref q1, .ref q2, .ref q4, .int 0, .ref q3, .int 0, .null]))] ++ bk cyC cyI cyO [0, 1, 2, 3, 4, 5, 6, 7, 8, 9, 10, 11, 12, 13, 14, 15, 16, 17, 18, 19, 20, 21, 22] ad1) ++ bk cyC cyI cyO [0, 1, 2, 3, 4, 5, 6, 7, 8, 9, 10, 11, 12, 13, 14, 15, 16, 17, 18, 19, 20, 21, 22] ad2) ++ bk cyC cyI cyO [0, 1, 2, 3, 4, 5, 6, 7, 8, 9, 10, 11, 12, 13, 14, 15, 16, 17, 18, 19, 20, 21, 22] ad3) ++ bk cyC cyI cyO [0, 1, 2, 3, 4, 5, 6, 7, 8, 9, 10, 11, 12, 13, 14, 15, 16, 17, 18, 19, 20, 21, 22] ad5) ++ bk cyC cyI cyO [0, 1, 2, 3, 4, 5, 6, 7, 8, 9, 10, 11, 12, 13, 14, 15, 16, 17, 18, 19, 20, 21, 22] ad6) ++ bk cyC cyI cyO [0, 1, 2, 3, 4, 5, 6, 7, 8, 9, 10, 11, 12, 13, 14, 15, 16, 17, 18, 19, 20, 21, 22] ad7) ++ bk cyC cyI cyO [0, 1, 2, 3, 4, 5, 6, 7, 8, 9, 10, 11, 12, 13, 14, 15, 16, 17, 18, 19, 20, 21, 22] ad8) ++ bk cyC cyI cyO [25, 29, 26, 27, 28] ad9)) := hD
  refine va_putF (D := (dC, dI)) (ci := 7) (v := .ref q9) (ty := .object "TicketWindows$Orders") (C := RX7) (T := TX7) (N := 7) hx hb hts (ob_in (c := 23) (by decide) rfl) tyX7 tyX7_ok nmX7 hown hK hP hD hS 1 rfl rfl 6 (by decide) (hts _ (GW_in (i := 213) (w := .fieldLink RX7 29 "TicketWindows" "orders" "LTicketWindows$Orders;") (by decide +kernel))) (fun _ h9 => h9) rfl hin rfl (by decide +kernel) rfl rfl (Nat.le_of_ble_eq_true rfl) dkX7_79 (fun H locs hP hD hS => ?_)
  have hP : va_P (dC, dI) vwCl ((((((((([(q4, .inl (cyO, 4, .inr (.inr (.inr (.inr (va_up (va_up (va_up (va_up (fun _ => none) 0 (some q5)) 1 (some q6)) 2 (some q7)) 3 (some q8))))))), (h0, .inr (7, [.ref q1, .ref q2, .ref q4, .int 0, .ref q3, .int 0, .ref q9]))] ++ bk cyC cyI cyO [0, 1, 2, 3, 4, 5, 6, 7, 8, 9, 10, 11, 12, 13, 14, 15, 16, 17, 18, 19, 20, 21, 22] ad1) ++ bk cyC cyI cyO [0, 1, 2, 3, 4, 5, 6, 7, 8, 9, 10, 11, 12, 13, 14, 15, 16, 17, 18, 19, 20, 21, 22] ad2) ++ bk cyC cyI cyO [0, 1, 2, 3, 4, 5, 6, 7, 8, 9, 10, 11, 12, 13, 14, 15, 16, 17, 18, 19, 20, 21, 22] ad3) ++ bk cyC cyI cyO [0, 1, 2, 3, 4, 5, 6, 7, 8, 9, 10, 11, 12, 13, 14, 15, 16, 17, 18, 19, 20, 21, 22] ad5) ++ bk cyC cyI cyO [0, 1, 2, 3, 4, 5, 6, 7, 8, 9, 10, 11, 12, 13, 14, 15, 16, 17, 18, 19, 20, 21, 22] ad6) ++ bk cyC cyI cyO [0, 1, 2, 3, 4, 5, 6, 7, 8, 9, 10, 11, 12, 13, 14, 15, 16, 17, 18, 19, 20, 21, 22] ad7) ++ bk cyC cyI cyO [0, 1, 2, 3, 4, 5, 6, 7, 8, 9, 10, 11, 12, 13, 14, 15, 16, 17, 18, 19, 20, 21, 22] ad8) ++ bk cyC cyI cyO [25, 29, 26, 27, 28] ad9)) H := hP
  have hD : va_D A ((((((((([(q4, .inl (cyO, 4, .inr (.inr (.inr (.inr (va_up (va_up (va_up (va_up (fun _ => none) 0 (some q5)) 1 (some q6)) 2 (some q7)) 3 (some q8))))))), (h0, .inr (7, [.ref q1, .ref q2, .ref q4, .int 0, .ref q3, .int 0, .ref q9]))] ++ bk cyC cyI cyO [0, 1, 2, 3, 4, 5, 6, 7, 8, 9, 10, 11, 12, 13, 14, 15, 16, 17, 18, 19, 20, 21, 22] ad1) ++ bk cyC cyI cyO [0, 1, 2, 3, 4, 5, 6, 7, 8, 9, 10, 11, 12, 13, 14, 15, 16, 17, 18, 19, 20, 21, 22] ad2) ++ bk cyC cyI cyO [0, 1, 2, 3, 4, 5, 6, 7, 8, 9, 10, 11, 12, 13, 14, 15, 16, 17, 18, 19, 20, 21, 22] ad3) ++ bk cyC cyI cyO [0, 1, 2, 3, 4, 5, 6, 7, 8, 9, 10, 11, 12, 13, 14, 15, 16, 17, 18, 19, 20, 21, 22] ad5) ++ bk cyC cyI cyO [0, 1, 2, 3, 4, 5, 6, 7, 8, 9, 10, 11, 12, 13, 14, 15, 16, 17, 18, 19, 20, 21, 22] ad6) ++ bk cyC cyI cyO [0, 1, 2, 3, 4, 5, 6, 7, 8, 9, 10, 11, 12, 13, 14, 15, 16, 17, 18, 19, 20, 21, 22] ad7) ++ bk cyC cyI cyO [0, 1, 2, 3, 4, 5, 6, 7, 8, 9, 10, 11, 12, 13, 14, 15, 16, 17, 18, 19, 20, 21, 22] ad8) ++ bk cyC cyI cyO [25, 29, 26, 27, 28] ad9)) := hD
  rw [← had_ad1] at hP hD
  rw [← had_ad2] at hP hD
  rw [← had_ad3] at hP hD
  rw [← had_ad5] at hP hD
  rw [← had_ad6] at hP hD
  rw [← had_ad7] at hP hD
  rw [← had_ad8] at hP hD
  rw [← had_ad9] at hP hD
  have hP := hd_P (g := fun j : Nat => some ((((fun k => [ad1, ad2, ad3, ad5, ad6, ad7, ad8].getD k (fun _ => 0)), q4, ad9) : (Nat → Nat → Nat) × Nat × (Nat → Nat)).1 (SI 0 24 j).toNat 0)) (fun j hj => by rcases (show j = 0 ∨ j = 1 ∨ j = 2 ∨ j = 3 by omega) with rfl | rfl | rfl | rfl <;> rfl) hP
  have hD := hd_D (e2 := .inl (cyO, 4, .inr (.inr (.inr (.inr (fun j : Nat => some ((((fun k => [ad1, ad2, ad3, ad5, ad6, ad7, ad8].getD k (fun _ => 0)), q4, ad9) : (Nat → Nat → Nat) × Nat × (Nat → Nat)).1 (SI 0 24 j).toNat 0))))))) hD
  have hP9 : va_P (dC, dI) vwCl (kW cyC cyI cyO h0 (((fun k => [ad1, ad2, ad3, ad5, ad6, ad7, ad8].getD k (fun _ => 0)), q4, ad9) : (Nat → Nat → Nat) × Nat × (Nat → Nat))) H := hP
  have hD9 : va_D A (kW cyC cyI cyO h0 (((fun k => [ad1, ad2, ad3, ad5, ad6, ad7, ad8].getD k (fun _ => 0)), q4, ad9) : (Nat → Nat → Nat) × Nat × (Nat → Nat))) := hD
  refine W.widen (k := 167) (n := 12185) (Nat.le_of_ble_eq_true rfl) (Nat.le_of_ble_eq_true rfl) ?_
  exact W.vret hx hb hr (fun t ht hW => ⟨⟨(((fun k => [ad1, ad2, ad3, ad5, ad6, ad7, ad8].getD k (fun _ => 0)), q4, ad9) : (Nat → Nat → Nat) × Nat × (Nat → Nat)), rfl, trivial, by rw [ht]; exact hP9, hAe ▸ hD9⟩, hAe ▸ hS.F ht⟩) (hAe ▸ hS.2.2) dkX7_82
end
section
/-! THE CLAIM OUT OF ONE WALK OF THE LAW'S BODY. Your part is whole_start (and what it stands on); all else here is the same for every law, but numbers. -/
def R_law : String := "TicketWindowsLaw"
def lw_P (b : Addr) (xs : List Int32) (args : Array Value) (s : State) : Prop := args = #[.ref b] ∧ s.IntsAt b xs ∧ xs.length ≤ 260 ∧ (Jvm.Cond.and given_1 narrow_1).before args s = true
def lw_Q (_ : Array Value) (s : State) (o : Outcome) (t : State) : Prop := o = .returned (some (.int 1)) ∧ Framed s o t [] 600000 7302249
def lw_Z (below : List Frame) (a : Array Value) (s : State) : State → Prop := fun t => ∃ o, t.status = .running ∧ Ended t below o ∧ lw_Q a s o t
/-- the law's own end, with 1 on the stack, nothing written that was there before, its room as the claim has it -/
theorem lw_ret {p : Program} {l : Launch} {e : Env} {s : State} {m : MethodId} {below : List Frame} {meth : Method} {c : Code} {b : Nat} (hx : p.tables.exec = Jvm.exec) (hb : c.code = code) (hr : meth.sig.returnType = ret) (hlocks : meth.locks = false) {pc : Nat} {H : Heap} {ls : Array Slot} (hdg : decode code pc = .ok (.ireturn, 1)) : W p l e room_1 s m #[Value.ref b] below meth c H [] 600000 7302249 (lw_Z below #[Value.ref b] s) (F0 m pc ls [.int 1]) := by
  intro T hT X
  obtain ⟨fs, hret, hrun, hended, hW, hframe⟩ := X.leave (v := some (.int 1)) (hlocks := hlocks) (fun h => by rw [hr] at h; cases h)
  have hmeth' : T.vm.method? m = some meth := X.method'
  refine ⟨T.setFrames fs, ?_, .returned (some (.int 1)), hrun, hended, rfl, ⟨_, rfl⟩, hW, hframe⟩
  jvm_step X.here [X.here.top, hx, hb, hdg, hmeth', hr, ret, narrow_b1]
  (try refine ⟨rfl, ?_⟩); (try refine ⟨rfl, ?_⟩)
  first | (intro acts; rw [hret _ acts rfl rfl rfl]) | rw [hret _ _ rfl rfl rfl]
  exact Steps.refl _
/-- what holds at the law's entry: the machine, the code, the tables' words (any of lw_tbl by 'hts w (by decide +kernel)'), the script of L ints xs at the cell b, what the Statement gives of the start (any of its parts by flat_of_before) -/
def lw_At (p : Program) (s : State) (m : MethodId) (meth : Method) (c : Code) (b L : Nat) (xs : Nat → Int32) : Prop :=
  p.tables.exec = Jvm.exec ∧ c.code = code ∧ meth.sig.returnType = ret ∧ c.maxLocals = 18 ∧ s.vm.findClass R_law = some m.cls ∧ (∀ w ∈ lw_tbl, w.before #[Value.ref b] s = true) ∧ va_X b L xs s s.heap ∧ b < s.heap.size ∧ meth.locks = false ∧ (Jvm.Cond.and given_1 narrow_1).before #[Value.ref b] s = true
/-- the small heap at the law's loop -/
def SL (L : Nat) (xs : Nat → Int32) : Hp := fun k c j => if c = 40 then (xs j.toNat).toInt else if c = 41 then L else SI k c j
theorem kF_off : ∀ c, c < 23 → ∀ q ∈ kF c, 3 ≤ q → q < 100 ∧ q - 10 < 23 := by decide +kernel
theorem kF_no2 : ∀ c, c < 23 → ∀ q ∈ kF c, q ≠ 2 := by decide +kernel
theorem kT_no4 : ∀ c, c < 23 → kT c ≠ 4 := by decide +kernel
section CEQ
variable {cyC cyI cyO : ClassId}
theorem cE_eq {rho rho' : Nat → Nat → Nat} {S S' : Hp} {k k' c : Nat} (h4 : kT c ≠ 4) (hj : ∀ j, S k c j = S' k' c j) (hf : ∀ j, j < (kF c).length → cvv rho (fM S k c j) = cvv rho' (fM S' k' c j)) : cE cyC cyI cyO rho S k c = cE cyC cyI cyO rho' S' k' c := by
  unfold cE
  rw [if_neg h4, if_neg h4]
  have e : S k c = S' k' c := funext hj
  rw [e]
  have e2 : (List.range (kF c).length).map (fun j => cvv rho (fM S k c j)) = (List.range (kF c).length).map (fun j => cvv rho' (fM S' k' c j)) := by
    apply List.map_congr_left
    intro j h
    exact hf j (List.mem_range.mp h)
  rw [e2]
theorem cE_office {rho : Nat → Nat → Nat} {ad : Nat → Nat} {S : Hp} {k c : Nat} (hc : c < 23) (hS : ∀ j, S k c j = SI 0 c j) (hr : ∀ c', c' < 23 → rho k c' = ad c') : cE cyC cyI cyO rho S k c = cE cyC cyI cyO (fun _ c => ad c) SI 0 c := by
  refine cE_eq (kT_no4 c hc) hS (fun j hj => ?_)
  have hq : (kF c)[j]? = some (kF c)[j] := List.getElem?_eq_getElem hj
  have hm := List.mem_of_getElem? hq
  generalize (kF c)[j] = q at hq hm
  unfold fM
  rw [hq]
  have h2 := kF_no2 c hc q hm
  match q, hq, hm, h2 with
  | 0, _, _, _ => show Value.int (Int32.ofInt _) = Value.int (Int32.ofInt _); rw [hS]
  | 1, _, _, _ => show Value.int (Int32.ofInt _) = Value.int (Int32.ofInt _); rw [hS]
  | 2, _, _, h2 => exact absurd rfl h2
  | q + 3, _, hm, _ =>
    obtain ⟨h5, h6⟩ := kF_off c hc (q + 3) hm (by omega)
    show cvv rho (if q + 3 < 100 then .inr (k, q + 3 - 10) else .inr (q + 3 - 100, 0)) = cvv _ (if q + 3 < 100 then .inr (0, q + 3 - 10) else .inr (q + 3 - 100, 0))
    rw [if_pos h5, if_pos h5]
    show Value.ref _ = Value.ref _
    rw [hr _ h6]
end CEQ
end
section
/-! THE LAW'S FRAME: from a state of the small machine (kk told arrays may still be made, al are alive) the law comes to its end -/
abbrev PT : Type := Launch × (Nat → ClassId) × (Nat → Nat → Nat) × ClassId × ClassId × ClassId × (Nat → Prop) × Nat × Nat × (Nat → Int32)
def PLn (P : PT) : Nat := P.2.2.2.2.2.2.2.2.1
def Pxs (P : PT) : Nat → Int32 := P.2.2.2.2.2.2.2.2.2
def xI (xs : Nat → Int32) : Int → Int := fun j => (xs j.toNat).toInt
def KL (P : PT) (kk : Nat) : KT := fun p _ R s m args below meth c cells slots Q => match P with
  | (_, _, _, _, _, _, A, b, Ln, xs) => R = room_1 ∧ args = #[.ref b] ∧ Q = lw_Z below #[.ref b] s ∧ lw_At p s m meth c b Ln xs ∧ A = (fun q => s.heap.size ≤ q) ∧ cells + kk ≤ 600000 ∧ slots + 64 * kk ≤ 7302249
def LW (P : PT) (kk al pc : Nat) (L : Lc) (st : List MV) (S : Hp) : Prop := match P with
  | (l, dC, dI, cyC, cyI, cyO, A, b, Ln, xs) => Ln ≤ 260 → ∀ rho : Nat → Nat → Nat, StS Ln (xI xs) S → (∀ (i : Nat) (v : MV), L[i]? = some (some v) → vM al v) → (∀ v ∈ st, vM al v) →
      Gd l dC dI al cyC cyI cyO rho A Ln (xI xs) 0 (KL (l, dC, dI, cyC, cyI, cyO, A, b, Ln, xs) kk) pc L st S
/-- one step of the law -/
def lS (P : PT) (kk al : Nat) : Option Rs → Prop := fo False (fun pc L st S => LW P kk al pc L st S) (fun m as pc L st S => Wp m 0 (ini m as) [] S (fun v S1 => LW P kk al pc L (v.toList ++ st) S1)) (fun v _ => v = some (.inl 1))
theorem mN_pos : 0 < mN := by decide
theorem LW_step {P : PT} {kk al pc : Nat} {L : Lc} {st : List MV} {S : Hp} (h : lS P kk al (stR 0 pc L st S)) : LW P kk al pc L st S := by
  obtain ⟨l, dC, dI, cyC, cyI, cyO, A, b, Ln, xs⟩ := P
  intro h260 rho hS hL hst
  have hLn : Ln < 2147483648 := by omega
  refine (stp (l := l) (dC := dC) (dI := dI) (al := al) (cyC := cyC) (cyI := cyI) (cyO := cyO) (rho := rho) (A := A) (Ln := Ln) (xs := xI xs) hLn (CC := True) ?_ mN_pos hS hL hst).2
  match hr : stR 0 pc L st S with
  | none => rw [hr] at h; exact h.elim
  | some (.inl (pc', L', st', S1)) =>
    rw [hr] at h
    intro hS1 hL1 hst1
    exact ⟨trivial, h h260 rho hS1 hL1 hst1⟩
  | some (.inr (.inl (m', as, pc', L', st', S1))) =>
    rw [hr] at h
    intro hm1 hS1 has
    obtain ⟨n, v, S2, hex, hq⟩ := h
    obtain ⟨⟨e1, e2⟩, e3⟩ := snd (l := l) (dC := dC) (dI := dI) (al := al) (cyC := cyC) (cyI := cyI) (cyO := cyO) (rho := rho) (A := A) (Ln := Ln) (xs := xI xs) hLn _ _ _ _ _ _ _ _ hex hm1 hS1 (fun i v hv => has v (List.mem_of_getElem? (ini_some hv))) (fun v hv => by cases hv)
    exact ⟨v, S2, e1, e2, e3, fun hS3 hL1 hst1 => ⟨trivial, hq h260 rho hS3 hL1 hst1⟩⟩
  | some (.inr (.inr (v', S1))) =>
    rw [hr] at h
    intro hS1 hv1
    have hv : v' = some (.inl 1) := h
    subst hv
    refine ⟨trivial, fun pc L st hret hst1 => ?_⟩
    intro p e R s m args below meth c H locs cells slots Q ls hC hP hS2 hl hK
    obtain ⟨rfl, rfl, rfl, C0, rfl, k1, k2⟩ := hK
    obtain ⟨hx, hb, hrr, hml, hown, hts0, hX, hbl, hlocks, hgv⟩ := id C0
    rw [hst1]
    rcases hret with ⟨z, hz, hd, -⟩ | ⟨q, hq, -⟩ | ⟨hq, -⟩
    · refine va_forget (fun q hq => hS2.2.2 q hq) ?_
      refine W.widen (k := 600000) (n := 7302249) (by omega) (by omega) ?_
      exact lw_ret hx hb hrr hlocks hd
    · cases hq
    · cases hq
/-- what is forgotten: told arrays behind the first al', locals -/
theorem ids_sub {al al' : Nat} (h : al' ≤ al) : (ids al').Sublist (ids al) := by
  unfold ids
  refine List.Sublist.append_left ?_ _
  refine List.Sublist.map _ ?_
  exact List.range_sublist.mpr h
theorem LW_weak {P : PT} {kk kk' al al' pc : Nat} {L L' : Lc} {st : List MV} {S : Hp} (hk : kk ≤ kk') (ha : al' ≤ al) (hlen : L'.length = L.length) (hsub : ∀ (i : Nat) (v : MV), L'[i]? = some (some v) → L[i]? = some (some v) ∧ vM al' v) (hst : ∀ v ∈ st, vM al' v) (h : LW P kk al' pc L' st S) : LW P kk' al pc L st S := by
  obtain ⟨l, dC, dI, cyC, cyI, cyO, A, b, Ln, xs⟩ := P
  intro h260 rho hS hL _
  have hg := h h260 rho hS (fun i v hv => (hsub i v hv).2) hst
  intro p e R s m args below meth c H locs cells slots Q ls hC hP hS2 hl hK
  obtain ⟨hx, hb, hml, hown, hts, hSt, hf, hlo, hcs, hss, hAD⟩ := id hC
  obtain ⟨k1, k2, k3, k4, k5, k6, k7⟩ := hK
  have hsl := ids_sub ha
  have hP1 : va_P (dC, dI) vwCl (wL al' cyC cyI cyO rho S) H := P_mem.mpr (fun q hq => P_mem.mp hP q (by
    unfold wL at hq ⊢
    exact (hsl.map _).subset hq))
  have hD1 : va_D A (wL al' cyC cyI cyO rho (fun _ _ _ => 0)) := by
    have h0 := D_nd.mp hAD.2
    refine D_nd.mpr ⟨List.Sublist.nodup ?_ h0.1, fun q hq => h0.2 q (by
      unfold wL at hq ⊢
      exact (hsl.map _).subset hq)⟩
    unfold wL
    exact (hsl.map _).map _
  refine hg p e R s m args below meth c H locs cells slots Q ls ⟨hx, hb, hml, hown, hts, hSt, hf, hlo, hcs, hss, hAD.1, hD1⟩ hP1 hS2 ?_ ⟨k1, k2, k3, k4, k5, by omega, by omega⟩
  refine ⟨by rw [hlen]; exact hl.1, hl.2.1, hl.2.2.1, fun q hq => ?_⟩
  obtain ⟨v, h1, h2⟩ := lvL_of hq
  obtain ⟨i, w⟩ := q
  dsimp only at h1 h2
  subst h2
  exact hl.2.2.2 _ (lvL_mem (hsub i v h1).1)
/-! tell: a new array -/
def rhoN (rho : Nat → Nat → Nat) (al q : Nat) : Nat → Nat → Nat := fun k c => if k = al ∧ c = 30 then q else rho k c
def zr (S : Hp) (al : Nat) : Hp := fun k c => if k = al ∧ c = 30 then (fun _ => 0) else S k c
theorem kF_30 : ∀ c, c < 36 → ∀ q ∈ kF c, 10 ≤ q → q < 100 → ¬ q - 10 = 30 := by decide +kernel
theorem kF_3 : ∀ c, c < 36 → ∀ q ∈ kF c, 3 ≤ q → 10 ≤ q := by decide +kernel
section TL
variable {al : Nat} {cyC cyI cyO : ClassId} {rho : Nat → Nat → Nat} {q : Nat} {S S' : Hp}
theorem cvv_N {v : MV} (h : vM al v) : cvv (rhoN rho al q) v = cvv rho v := by
  match v, h with
  | .inl z, _ => rfl
  | .inr (k, c), h =>
    show Value.ref _ = Value.ref _
    unfold rhoN
    rw [if_neg]
    rintro ⟨rfl, rfl⟩
    rcases h with h | h
    · have := h.2
      dsimp only at this
      rw [kK_30] at this
      omega
    · have := h.1
      dsimp only at this
      omega
theorem cE_N (hS : vS S) {k c : Nat} (hk : (k, c) ∈ ids al) : cE cyC cyI cyO (rhoN rho al q) S k c = cE cyC cyI cyO rho S k c := by
  obtain ⟨hc, hk2⟩ := ids_mem.mp hk
  have e1 : (List.range (kF c).length).map (fun j => cvv (rhoN rho al q) (fM S k c j)) = (List.range (kF c).length).map (fun j => cvv rho (fM S k c j)) := by
    apply List.map_congr_left
    intro j hj
    have hj2 := List.mem_range.mp hj
    exact cvv_N (vM_fM hS hc hk2 (List.getElem?_eq_getElem hj2))
  have e2 : ∀ n : Nat, rhoN rho al q n 0 = rho n 0 := fun n => by
    unfold rhoN
    rw [if_neg (fun h => absurd h.2 (by decide))]
  unfold cE
  rw [e1]
  simp only [e2]
theorem wL_N (hS : vS S) (hz : S al 30 = fun _ => 0) : wL (al + 1) cyC cyI cyO (rhoN rho al q) S = wL al cyC cyI cyO rho S ++ [(q, .inl (cyI, 64, .inl (fun _ : Nat => (0 : Int32))))] := by
  unfold wL
  rw [ids_succ, List.map_append]
  congr 1
  · apply List.map_congr_left
    rintro ⟨k, c⟩ hk
    dsimp only
    rw [cE_N hS hk]
    obtain ⟨hc, hk2⟩ := ids_mem.mp hk
    have e : rhoN rho al q k c = rho k c := by
      unfold rhoN
      rw [if_neg]
      rintro ⟨rfl, rfl⟩
      rw [kK_30] at hk2
      omega
    rw [e]
  · show [(rhoN rho al q al 30, cE cyC cyI cyO (rhoN rho al q) S al 30)] = _
    have e : rhoN rho al q al 30 = q := if_pos ⟨rfl, rfl⟩
    rw [e, cE_int (show kT 30 = 2 from rfl), hz]
    rfl
/-- rows that are not alive don't show -/
theorem wL_zr : wL al cyC cyI cyO rho (zr S al) = wL al cyC cyI cyO rho S := by
  unfold wL
  apply List.map_congr_left
  rintro ⟨k, c⟩ hk
  dsimp only
  rw [cE_congr (fun j => ?_)]
  obtain ⟨hc, hk2⟩ := ids_mem.mp hk
  unfold zr
  rw [if_neg]
  rintro ⟨rfl, rfl⟩
  rw [kK_30] at hk2
  omega
theorem zr_vS (h : vS S) : vS (zr S al) := by
  refine ⟨fun k c j hk hq => ?_, fun k c j hk ht h1 h2 => ?_⟩
  · have e : zr S al k c = S k c := by
      unfold zr
      rw [if_neg]
      rintro ⟨rfl, rfl⟩
      have e30 : kF 30 = [] := rfl
      rw [e30] at hq
      cases hq
    rw [e]
    exact h.1 k c j hk hq
  · have e : zr S al k c = S k c := by
      unfold zr
      rw [if_neg]
      rintro ⟨rfl, rfl⟩
      exact absurd ht (by decide)
    rw [e]
    exact h.2 k c j hk ht h1 h2
theorem zr_nc {k c : Nat} (h : ¬ c = 30) : zr S al k c = S k c := if_neg (fun q => h q.2)
theorem zr_St {Ln : Nat} {xs : Int → Int} (h : StS Ln xs S) : StS Ln xs (zr S al) := ⟨zr_vS h.1, by rw [zr_nc (by decide)]; exact h.2.1, fun j => by rw [zr_nc (by decide)]; exact h.2.2 j⟩
theorem vM_s {v : MV} (h : vM al v) : vM (al + 1) v := by
  match v, h with
  | .inl _, _ => trivial
  | .inr (k, c), h =>
    rcases h with h | h
    · refine Or.inl ⟨h.1, ?_⟩
      have h2 := h.2
      dsimp only at h2 ⊢
      rcases Nat.lt_or_ge c 30 with g | g
      · rw [kK_lo g] at h2 ⊢; exact h2
      · rcases Nat.eq_or_lt_of_le g with g | g
        · subst g
          rw [kK_30] at h2 ⊢
          omega
        · rw [kK_hi g] at h2; omega
    · exact Or.inr h
end TL
end
section
/-! THE LAW'S FRAME: the contract of tell, the law's calls of it, the law's start -/
set_option maxHeartbeats 4000000 in
set_option maxRecDepth 100000 in
theorem dt_0 : decode (mB 98) 0 = .ok (.bipush 64, 2) := by decide +kernel
set_option maxHeartbeats 4000000 in
set_option maxRecDepth 100000 in
theorem dt_2 : decode (mB 98) 2 = .ok (.newarray .int, 2) := by decide +kernel
set_option maxHeartbeats 4000000 in
set_option maxRecDepth 100000 in
theorem dt_4 : decode (mB 98) 4 = .ok (.astore_n 1, 1) := by decide +kernel
def QtL (dC : Nat → ClassId) (dI : Nat → Nat → Nat) (al : Nat) (cyC cyI cyO : ClassId) (rho : Nat → Nat → Nat) (A : Nat → Prop) (S' : Hp) : Array Value → State → Outcome → State → Prop :=
  fun _ s o t => (∃ q : Nat, o = .returned (some (.ref q)) ∧ va_P (dC, dI) vwCl (wL (al + 1) cyC cyI cyO (rhoN rho al q) S') t.heap ∧ va_D A (wL (al + 1) cyC cyI cyO (rhoN rho al q) (fun _ _ _ => 0))) ∧ va_F A s t
def PtL (dC : Nat → ClassId) (dI : Nat → Nat → Nat) (al : Nat) (cyC cyI cyO : ClassId) (rho : Nat → Nat → Nat) (Bd Ln : Nat) (xs : Int → Int) (S : Hp) : Array Value → State → Prop :=
  va_Pc [cvv rho (.inr (0, 23))] (fun U => Bd ≤ U.heap.size ∧ va_P (dC, dI) vwCl (wL al cyC cyI cyO rho S) U.heap ∧ St0 dC dI cyC cyI cyO rho (fun q => Bd ≤ q) Ln xs U)
def rmT : Room := { frames := mF 98, cells := 1, slots := 64, locals := mLo 98 }
set_option maxHeartbeats 4000000 in
set_option maxRecDepth 100000 in
theorem St0_N {dC : Nat → ClassId} {dI : Nat → Nat → Nat} {cyC cyI cyO : ClassId} {rho : Nat → Nat → Nat} {A : Nat → Prop} {Ln al q : Nat} {xs : Int → Int} {U : State} (h : St0 dC dI cyC cyI cyO rho A Ln xs U) : St0 dC dI cyC cyI cyO (rhoN rho al q) A Ln xs U := by
  have e : ∀ c, 36 ≤ c → rhoN rho al q 0 c = rho 0 c := fun c hc => by
    unfold rhoN
    rw [if_neg (fun h => by omega)]
  obtain ⟨h1, h2, h3, h4⟩ := h
  refine ⟨h1, h2, fun c c1 c2 => ?_, ?_⟩
  · rw [e c c1]; exact h3 c c1 c2
  · rw [e 40 (by decide)]; exact h4
section TM
variable {l : Launch} {dC : Nat → ClassId} {dI : Nat → Nat → Nat} {al : Nat} {cyC cyI cyO : ClassId} {rho : Nat → Nat → Nat} {Bd Ln : Nat} {xs : Int → Int} {S S1 : Hp} {n : Nat}
set_option maxHeartbeats 4000000 in
set_option maxRecDepth 100000 in
theorem met_tell (hLn : Ln < 2147483648) (hAD : AD al cyC cyI cyO rho (fun q => Bd ≤ q)) (hS : StS Ln xs S)
    (hex : ex n 98 5 [some (.inr (0, 23)), some (.inr (al, 30)), none, none] [] (zr S al) = some (some (.inr (al, 30)), S1)) :
    Met l (mY 98) (.code (mY 98) (mB 98) (mL 98) (mR 98) :: GW) rmT (PtL dC dI al cyC cyI cyO rho Bd Ln xs S) (QtL dC dI al cyC cyI cyO rho (fun q => Bd ≤ q) S1) 1 64 (fun q => Bd ≤ q) := by
  refine Met.ofW (cc := mB 98) (maxL := mL 98) (ret := mR 98) (by decide +kernel) rfl ?_
  intro p e s mm args below meth c s₁ B hml hv
  obtain ⟨rfl, hBd, hP, hSt⟩ := hv
  have hts := atoms_spec (ws := .code (mY 98) (mB 98) (mL 98) (mR 98) :: GW) B.pre
  have hlocks := B.notSynchronized
  have hgw : ∀ w ∈ GW, w.before _ s = true := fun w hw => hts w (List.mem_cons_of_mem _ hw)
  rw [lg_entry_eq]
  have hl0 := LR_ini (rho := rho) (m := 98) (as := [.inr (0, 23)]) (by decide)
  obtain ⟨ls, hls⟩ : ∃ ls : Array Slot, ls = (lg_sl ([.inr (0, 23)].map (cvv rho)) ++ List.replicate (mL 98 - (lg_sl ([.inr (0, 23)].map (cvv rho))).length) Slot.unset).toArray := ⟨_, rfl⟩
  rw [← hls] at hl0
  show W p l e _ s mm _ below meth c s.heap [] 0 0 _ (F0 mm 0 (lg_sl ([.inr (0, 23)].map (cvv rho)) ++ List.replicate (mL 98 - (lg_sl ([.inr (0, 23)].map (cvv rho))).length) Slot.unset).toArray [])
  rw [← hls]
  have hA : ∀ q : Nat, s.heap.size ≤ q → (fun q : Nat => Bd ≤ q) q := fun q h => Nat.le_trans hBd h
  refine lv_bipush (v := 64) B.exec B.bytes dt_0 (by decide) ?_
  refine nw_arr (atype := .int) (ty := .int) (a0 := (64, .inl (fun _ : Nat => (0 : Int32)))) B.exec B.bytes (hgw _ (GW_in (i := 54) (w := .arrayClass .int) (by decide +kernel))) rfl hSt.1 hP (wL_D S hAD.2) va_S.rf hA 1 rfl (fun C h => by cases h) (fun cA => by first | rfl | exact congrArg (arrV cA 64) (funext fun j => rfl)) (by decide) (by decide) (by decide) (Nat.le_of_ble_eq_true rfl) (Nat.le_of_ble_eq_true rfl) dt_2 (fun q H hP hD hS2 => ?_)
  have hz := zr_St (al := al) hS
  have hzz : zr S al al 30 = fun _ => 0 := if_pos ⟨rfl, rfl⟩
  have ew := wL_N (al := al) (cyC := cyC) (cyI := cyI) (cyO := cyO) (rho := rho) (q := q) (S := zr S al) hz.1 hzz
  rw [wL_zr] at ew
  rw [← ew] at hP hD
  have hl1 : LR (rhoN rho al q) ls 4 [some (.inr (0, 23)), none, none, none] := by
    refine ⟨rfl, hl0.2.1, hl0.2.2.1, fun w hw => ?_⟩
    obtain ⟨v, h1, h2⟩ := lvL_of hw
    obtain ⟨i, x⟩ := w
    dsimp only at h1 h2
    subst h2
    match i, h1 with
    | 0, h1 =>
      cases h1
      rw [cvv_N (v := .inr (0, 23)) (Or.inl ⟨by decide, by rw [kK_lo (by decide)]; decide⟩)]
      exact hl0.2.2.2 _ (lvL_mem (i := 0) (v := .inr (0, 23)) rfl)
    | 1, h1 => cases h1
    | 2, h1 => cases h1
    | 3, h1 => cases h1
    | i + 4, h1 => simp at h1
  have e30 : cvv (rhoN rho al q) (.inr (al, 30)) = .ref q := by
    show Value.ref (rhoN rho al q al 30) = _
    unfold rhoN
    rw [if_pos ⟨rfl, rfl⟩]
  refine lv_astore_n (i := 1) B.exec B.bytes dt_4 rfl hl1.2 (by decide) rfl (fun ls2 hl2 => ?_)
  rw [← e30] at hl2
  have hl3 := LR_put (rho := rhoN rho al q) (ls' := ls2) (i := 1) (v := .inr (al, 30)) hl1.1 (by decide) hl2
  have hG := (snd (l := l) (dC := dC) (dI := dI) (al := al + 1) (cyC := cyC) (cyI := cyI) (cyO := cyO) (rho := rhoN rho al q) (A := fun q => Bd ≤ q) (Ln := Ln) (xs := xs) hLn n 98 5 _ _ _ _ _ hex (by decide) hz (fun i v hv => by
    match i, hv with
    | 0, hv => cases hv; exact Or.inl ⟨by decide, by rw [kK_lo (by decide)]; decide⟩
    | 1, hv => cases hv; exact Or.inl ⟨by show 30 < 36; decide, by show al < kK (al + 1) 30; rw [kK_30]; omega⟩
    | 2, hv => cases hv
    | 3, hv => cases hv
    | i + 4, hv => simp at hv) (fun v hv => by cases hv)).2
  have hro : ∀ c, 36 ≤ c → c < 41 → ¬ (fun q => Bd ≤ q) (rhoN rho al q 0 c) := fun c c1 c2 => by
    have e : rhoN rho al q 0 c = rho 0 c := by
      unfold rhoN
      rw [if_neg (fun h => by omega)]
    rw [e]
    exact hAD.1 c c1 c2
  refine hG p e rmT s mm _ below meth c H [] 1 64 _ ls2 ⟨B.exec, B.bytes, hml, findClass_of_methodNamed B.named, hgw, St0_N hSt, Nat.le_refl _, Nat.le_refl _, Nat.le_refl _, Nat.le_refl _, hro, wL_D _ hD⟩ hP hS2 hl3 ?_
  intro pc ls H locs hr hP1 hS1
  have hQ : ∀ t : State, t.heap = H → QtL dC dI al cyC cyI cyO rho (fun q => Bd ≤ q) S1 [cvv rho (.inr (0, 23))].toArray s (.returned (some (cvv (rhoN rho al q) (.inr (al, 30))))) t := fun t ht => ⟨⟨q, by rw [e30], by rw [ht]; exact hP1, wL_D _ hD⟩, hS1.F ht⟩
  rcases hr with ⟨z, hz, -⟩ | ⟨q', hq', hd, hz⟩ | ⟨hz, -⟩
  · cases hz
  · cases hq'
    exact W.aret B.exec B.bytes (B.returns.trans (show mR 98 = some (.array .int) from rfl)) (Or.inr ⟨_, rfl⟩) (Or.inr ⟨_, rfl⟩) (fun t ht hW => hQ t ht) hS1.2.2 hd
  · cases hz
section CL
variable {p : Program} {e : Env} {R : Room} {s : State} {m : MethodId} {args : Array Value} {below : List Frame} {meth : Method} {c : Code} {H : Heap} {locs : List Loc} {cells slots : Nat} {Q : State → Prop} {pc : Nat} {ls : Array Slot} {rest st0 : List Value}
set_option maxHeartbeats 4000000 in
set_option maxRecDepth 100000 in
theorem tell_go {a : Array Value} {A : Nat → Prop} (hr : va_Run p l e R s m args below meth c H locs cells slots 1 64 (F0 m pc ls st0) rest (QtL dC dI al cyC cyI cyO rho A S1 a) A) (hS : va_S A s.heap H locs)
    (kk : ∀ (q : Nat) (H1 : Heap) (locs1 : List Loc), va_P (dC, dI) vwCl (wL (al + 1) cyC cyI cyO (rhoN rho al q) S1) H1 → va_D A (wL (al + 1) cyC cyI cyO (rhoN rho al q) (fun _ _ _ => 0)) → va_S A s.heap H1 locs1 → W p l e R s m args below meth c H1 locs1 (cells + 1) (slots + 64) Q (F0 m (pc + 3) ls (.ref q :: rest))) : W p l e R s m args below meth c H locs cells slots Q (F0 m pc ls st0) := by
  intro T hT X
  obtain ⟨v, st₀, t, T', L, h0, X', hL, e1, e2, ⟨⟨q, hv, hp, hd⟩, hz, hk⟩, st⟩ := hr T hT X
  cases hv
  rw [h0] at hz hk
  obtain ⟨t2, a1, b1⟩ := kk q T'.heap (locs ++ L) (by rw [e1]; exact hp) hd
    ⟨Nat.le_trans hS.1 (by rw [e1]; exact hz), fun q h1 h2 => by rw [e1, hk q (Nat.lt_of_lt_of_le h1 hS.1) h2]; exact hS.2.1 q h1 h2, fun q hq => by
      rcases List.mem_append.mp hq with h | h
      · exact hS.2.2 q h
      · exact hL q h⟩ T' rfl X'
  exact ⟨t2, st t2 a1, b1⟩
end CL
end TM
set_option maxHeartbeats 4000000 in
set_option maxRecDepth 100000 in
theorem tl_blind {dC : Nat → ClassId} {dI : Nat → Nat → Nat} {al : Nat} {cyC cyI cyO : ClassId} {rho : Nat → Nat → Nat} {Bd Ln : Nat} {xs : Int → Int} {S : Hp} : FrameBlind (PtL dC dI al cyC cyI cyO rho Bd Ln xs S) := by
  intro a U g mk h
  obtain ⟨h1, h2, h3, h4⟩ := h
  exact ⟨h1, h2, h3, St0_calling h4 g mk a⟩
/-! THE LAW CALLS tell -/
set_option maxHeartbeats 4000000 in
set_option maxRecDepth 100000 in
theorem LW_tell {P : PT} {kk al pc i r3 : Nat} {L : Lc} {st : List MV} {S : Hp} (hC : mC 0 pc = some (.invokestatic i, 3, 98, 1, r3, 0)) (hpz : pc < mZ 0) (h8 : st.length ≤ 8)
    (h : Wp 98 5 [some (.inr (0, 23)), some (.inr (al, 30)), none, none] [] (zr S al) (fun v S1 => v = some (.inr (al, 30)) ∧ LW P kk (al + 1) (pc + 3) L (.inr (al, 30) :: st) S1)) :
    LW P (kk + 1) al pc L (.inr (0, 23) :: st) S := by
  obtain ⟨l, dC, dI, cyC, cyI, cyO, A, b, Ln, xs⟩ := P
  intro h260 rho hS hL hst
  have hLn : Ln < 2147483648 := by omega
  intro p e R s mm args below meth c0 H locs cells slots Q ls hC0 hP hS1 hl hK
  obtain ⟨hx, hb, hml, hown, hts, hSt, hf, hlo, hcs, hss, hAD⟩ := id hC0
  obtain ⟨rfl, rfl, rfl, C0, rfl, k1, k2⟩ := hK
  obtain ⟨n, v, S1, hex, rfl, hLW⟩ := h
  have hk := ck_all mN_pos hpz
  unfold ckAt at hk
  rw [hC] at hk
  simp only [Bool.and_eq_true, decide_eq_true_eq] at hk
  obtain ⟨hd, hlk⟩ := hk
  change decode (mB 0) pc = .ok (.invokestatic i, 3) at hd
  simp only [ckL, Bool.and_eq_true] at hlk
  rw [if_neg (by decide)] at hlk
  simp only [Bool.and_eq_true, ↓reduceIte] at hlk
  obtain ⟨⟨hck, hms⟩, hw⟩ := hlk
  simp only [ckCall, Bool.and_eq_true, decide_eq_true_eq] at hck
  obtain ⟨⟨⟨⟨⟨c0', c1⟩, c2⟩, c3⟩, c4⟩, c5⟩ := hck
  obtain ⟨z1, z2, z3, z4, z5⟩ := ckM_use c1 c2
  rw [hms] at z2
  simp only [↓reduceIte] at z2
  have hM := met_tell (l := l) (dC := dC) (dI := dI) (al := al) (cyC := cyC) (cyI := cyI) (cyO := cyO) (rho := rho) (Bd := s.heap.size) (Ln := Ln) (xs := xI xs) hLn hAD hS hex
  have hGI : GoodIn GW (.code (mY 98) (mB 98) (mL 98) (mR 98) :: GW) := fun w hw2 => by
    rcases List.mem_cons.mp hw2 with h | h
    · rw [h]; exact GW_good _ (GW_in z1)
    · exact GW_good w h
  have hPS : PreS s H (PtL dC dI al cyC cyI cyO rho s.heap.size Ln (xI xs) S) [cvv rho (.inr (0, 23))] := ⟨tl_blind, fun U hU hW => ⟨rfl, by rw [hU]; exact hS1.1, by rw [hU]; exact hP, St0_next hSt hAD.1 hS1 hU hW⟩⟩
  have hrun : va_Run p l e room_1 s mm #[Value.ref b] below meth c0 H locs cells slots 1 64 (F0 mm pc ls ((.inr (0, 23) :: st).map (cvv rho))) (st.map (cvv rho)) (QtL dC dI al cyC cyI cyO rho (fun q => s.heap.size ≤ q) S1 [cvv rho (.inr (0, 23))].toArray) (fun q => s.heap.size ≤ q) :=
    va_runS (n := 1) ⟨hx, hb, hml, hown, hts⟩ hM ⟨callB_of 1 hts hGI rfl rfl rfl (hts _ (GW_in z3)) (hts _ (GW_in hw)) ⟨z4, z5, c5⟩ ⟨Nat.le_trans c3 hf, Nat.le_trans c4 hlo⟩, hts _ (GW_in z2)⟩ hPS rfl rfl hl.2.1 (by simp) (lv_room (by rw [sum_cat]; exact h8)) hd ⟨by show cells + 1 ≤ 600000; omega, by show slots + 64 ≤ 7302249; omega⟩
  have hL2 : StS Ln (xI xs) S1 ∧ _ := (snd (l := l) (dC := dC) (dI := dI) (al := al + 1) (cyC := cyC) (cyI := cyI) (cyO := cyO) (rho := rho) (A := fun q => s.heap.size ≤ q) (Ln := Ln) (xs := xI xs) hLn n 98 5 _ _ _ _ _ hex (by decide) (zr_St hS) (fun i v hv => by
    match i, hv with
    | 0, hv => cases hv; exact Or.inl ⟨by decide, by rw [kK_lo (by decide)]; decide⟩
    | 1, hv => cases hv; exact Or.inl ⟨by show 30 < 36; decide, by show al < kK (al + 1) 30; rw [kK_30]; omega⟩
    | 2, hv => cases hv
    | 3, hv => cases hv
    | i + 4, hv => simp at hv) (fun v hv => by cases hv)).1
  refine tell_go hrun hS1 (fun q H1 locs1 hP1 hD1 hS2 => ?_)
  have hro : ∀ c, 36 ≤ c → c < 41 → ¬ (fun q => s.heap.size ≤ q) (rhoN rho al q 0 c) := fun c c1 c2 => by
    have e : rhoN rho al q 0 c = rho 0 c := by
      unfold rhoN
      rw [if_neg (fun h => by omega)]
    rw [e]
    exact hAD.1 c c1 c2
  have hst1 : ∀ v ∈ st, vM al v := fun v hv => hst v (List.mem_cons_of_mem _ hv)
  have hg := hLW h260 (rhoN rho al q) hL2.1 (fun i v hv => vM_s (hL i v hv)) (fun v hv => by
    rcases List.mem_cons.mp hv with rfl | hv
    · exact Or.inl ⟨by show 30 < 36; decide, by show al < kK (al + 1) 30; rw [kK_30]; omega⟩
    · exact vM_s (hst1 v hv))
  have h9 := hg p e room_1 s mm _ below meth c0 H1 locs1 (cells + 1) (slots + 64) _ ls ⟨hx, hb, hml, hown, hts, St0_N hSt, hf, hlo, by show cells + 1 ≤ 600000; omega, by show slots + 64 ≤ 7302249; omega, hro, hD1⟩ hP1 hS2 ⟨hl.1, hl.2.1, hl.2.2.1, fun w hw => by
    obtain ⟨v, g1, g2⟩ := lvL_of hw
    obtain ⟨i, x⟩ := w
    dsimp only at g1 g2
    subst g2
    rw [cvv_N (hL i v g1)]
    exact hl.2.2.2 _ (lvL_mem g1)⟩ ⟨rfl, rfl, rfl, C0, rfl, by omega, by omega⟩
  have e30 : cvv (rhoN rho al q) (.inr (al, 30)) = .ref q := by
    show Value.ref (rhoN rho al q al 30) = _
    unfold rhoN
    rw [if_pos ⟨rfl, rfl⟩]
  rw [List.map_cons, e30] at h9
  have e31 : st.map (cvv (rhoN rho al q)) = st.map (cvv rho) := List.map_congr_left fun v hv => cvv_N (hst1 v hv)
  rw [e31] at h9
  exact h9
end
section
/-! THE LAW'S FRAME: from the class made, over the whole small heap -/
def idsP : List (Nat × Nat) := [(0, 24), (0, 23)] ++ (List.range 23).map (fun c => (0, c)) ++ (List.range 23).map (fun c => (1, c)) ++ (List.range 23).map (fun c => (2, c)) ++ (List.range 23).map (fun c => (3, c)) ++ (List.range 23).map (fun c => (4, c)) ++ (List.range 23).map (fun c => (5, c)) ++ (List.range 23).map (fun c => (6, c)) ++ [25, 29, 26, 27, 28].map (fun c => (0, c))
set_option maxHeartbeats 4000000 in
set_option maxRecDepth 100000 in
theorem idsP_perm : (ids 0).Perm idsP := by
  have h : (ids 0).isPerm idsP = true := by decide +kernel
  exact List.isPerm_iff.mp h
def rhoA (u : (Nat → Nat → Nat) × Nat × (Nat → Nat)) (ro : Nat → Nat) (h0 : Nat) : Nat → Nat → Nat := fun k c => if c < 23 then u.1 k c else if c = 23 then h0 else if c = 24 then u.2.1 else if c < 30 then u.2.2 c else ro c
section GO
variable {cyC cyI cyO : ClassId} {u : (Nat → Nat → Nat) × Nat × (Nat → Nat)} {ro : Nat → Nat} {h0 L : Nat} {xs : Nat → Int32}
set_option maxHeartbeats 4000000 in
set_option maxRecDepth 100000 in
theorem kW_fst : ((kW cyC cyI cyO h0 u).map Prod.fst) = idsP.map (fun q => rhoA u ro h0 q.1 q.2) := by
  have e : ∀ k : Nat, (bk cyC cyI cyO [0, 1, 2, 3, 4, 5, 6, 7, 8, 9, 10, 11, 12, 13, 14, 15, 16, 17, 18, 19, 20, 21, 22] (u.1 k)).map Prod.fst = ((List.range 23).map (fun c => (k, c))).map (fun q => rhoA u ro h0 q.1 q.2) := fun k => rfl
  unfold kW idsP
  simp only [List.map_append]
  rw [e 0, e 1, e 2, e 3, e 4, e 5, e 6]
  rfl
set_option maxHeartbeats 4000000 in
set_option maxRecDepth 100000 in
theorem wL_in {q : Nat × va_E} (hq : q ∈ wL 0 cyC cyI cyO (rhoA u ro h0) (SL L xs)) : q ∈ kW cyC cyI cyO h0 u := by
  obtain ⟨⟨k, c⟩, hm, rfl⟩ := List.mem_map.mp hq
  obtain ⟨hc, hk⟩ := ids_mem.mp hm
  dsimp only
  by_cases h : c < 23
  · have hk7 : k < 7 := by unfold kK at hk; rw [if_pos h] at hk; exact hk
    have e1 : rhoA u ro h0 k c = u.1 k c := by unfold rhoA; rw [if_pos h]
    have e2 : cE cyC cyI cyO (rhoA u ro h0) (SL L xs) k c = cE cyC cyI cyO (fun _ c => u.1 k c) SI 0 c := by
      refine cE_office h (fun j => ?_) (fun c' hc' => ?_)
      · unfold SL; rw [if_neg (by omega), if_neg (by omega)]; rfl
      · unfold rhoA; rw [if_pos hc']
    rw [e1, e2]
    have hb : (u.1 k c, cE cyC cyI cyO (fun _ c => u.1 k c) SI 0 c) ∈ bk cyC cyI cyO [0, 1, 2, 3, 4, 5, 6, 7, 8, 9, 10, 11, 12, 13, 14, 15, 16, 17, 18, 19, 20, 21, 22] (u.1 k) := by
      refine List.mem_map.mpr ⟨c, ?_, rfl⟩
      have : ∀ c, c < 23 → c ∈ [0, 1, 2, 3, 4, 5, 6, 7, 8, 9, 10, 11, 12, 13, 14, 15, 16, 17, 18, 19, 20, 21, 22] := by decide
      exact this c h
    unfold kW
    simp only [List.mem_append]
    rcases (show k = 0 ∨ k = 1 ∨ k = 2 ∨ k = 3 ∨ k = 4 ∨ k = 5 ∨ k = 6 by omega) with rfl | rfl | rfl | rfl | rfl | rfl | rfl
    · exact Or.inl (Or.inl (Or.inl (Or.inl (Or.inl (Or.inl (Or.inl (Or.inr hb)))))))
    · exact Or.inl (Or.inl (Or.inl (Or.inl (Or.inl (Or.inl (Or.inr hb))))))
    · exact Or.inl (Or.inl (Or.inl (Or.inl (Or.inl (Or.inr hb)))))
    · exact Or.inl (Or.inl (Or.inl (Or.inl (Or.inr hb))))
    · exact Or.inl (Or.inl (Or.inl (Or.inr hb)))
    · exact Or.inl (Or.inl (Or.inr hb))
    · exact Or.inl (Or.inr hb)
  · have hk0 : k = 0 := by
      rcases Nat.lt_or_ge c 30 with g | g
      · unfold kK at hk
        rw [if_neg h, if_pos g] at hk
        omega
      · rcases Nat.eq_or_lt_of_le g with g | g
        · subst g; rw [kK_30] at hk; omega
        · rw [kK_hi g] at hk; omega
    subst hk0
    have hmk : ∀ {q : Nat × va_E}, q ∈ bk cyC cyI cyO [25, 29, 26, 27, 28] u.2.2 → q ∈ kW cyC cyI cyO h0 u := fun h => by unfold kW; exact List.mem_append_right _ h
    rcases (show c = 23 ∨ c = 24 ∨ c = 25 ∨ c = 26 ∨ c = 27 ∨ c = 28 ∨ c = 29 by
      rcases Nat.lt_or_ge c 30 with g | g
      · omega
      · rcases Nat.eq_or_lt_of_le g with g | g
        · subst g; rw [kK_30] at hk; omega
        · rw [kK_hi g] at hk; omega) with rfl | rfl | rfl | rfl | rfl | rfl | rfl
    · unfold kW; simp only [List.mem_append]; exact Or.inl (Or.inl (Or.inl (Or.inl (Or.inl (Or.inl (Or.inl (Or.inl (List.mem_cons_of_mem _ List.mem_cons_self))))))))
    · unfold kW; simp only [List.mem_append]; exact Or.inl (Or.inl (Or.inl (Or.inl (Or.inl (Or.inl (Or.inl (Or.inl List.mem_cons_self)))))))
    · exact hmk (List.mem_map.mpr ⟨25, by decide, rfl⟩)
    · exact hmk (List.mem_map.mpr ⟨26, by decide, rfl⟩)
    · exact hmk (List.mem_map.mpr ⟨27, by decide, rfl⟩)
    · exact hmk (List.mem_map.mpr ⟨28, by decide, rfl⟩)
    · exact hmk (List.mem_map.mpr ⟨29, by decide, rfl⟩)
set_option maxHeartbeats 4000000 in
set_option maxRecDepth 100000 in
theorem SL_St : StS L (xI xs) (SL L xs) := by
  refine ⟨⟨fun k c j hk hq => ?_, fun k c j hk ht h1 h2 => ?_⟩, rfl, fun j => rfl⟩
  · have hc : c < 36 := by
      rcases Nat.lt_or_ge c 36 with g | g
      · exact g
      · rw [kK_hi (by omega)] at hk; omega
    have key : ∀ c, c < 36 → ∀ j, j < (kF c).length → (kF c)[j]? = some 2 → c = 23 ∧ (j = 0 ∨ j = 1) := by decide +kernel
    obtain ⟨rfl, h3⟩ := key c hc j (List.getElem?_eq_some_iff.mp hq).1 hq
    have e1 : SL L xs k 23 ((0 : Nat) : Int) = 0 := rfl
    have e2 : SL L xs k 23 ((1 : Nat) : Int) = 1 := rfl
    rcases h3 with rfl | rfl <;> omega
  · have hc := kT_lt c (by omega)
    have key : ∀ c, c < 36 → kT c = 4 → c = 24 := by decide +kernel
    obtain rfl := key c hc ht
    have e : SL L xs k 24 j = 3 + j := rfl
    have e2 : kL 24 = 4 := rfl
    rw [e]
    omega
set_option maxHeartbeats 4000000 in
set_option maxRecDepth 100000 in
theorem law_go (hpure : ∀ (P : PT) (L : Nat) (xs : Nat → Int32), PLn P = L → Pxs P = xs → L ≤ 260 → LW P 1000 0 8 (some (.inr (0, 40)) :: some (.inr (0, 23)) :: List.replicate 16 none) [] (SL L xs))
    {p : Program} {e : Env} {s : State} {m : MethodId} {below : List Frame} {meth : Method} {c : Code} (l : Launch) {b : Nat} (hL : L ≤ 260) (C0 : lw_At p s m meth c b L xs)
    (dC : Nat → ClassId) (dI : Nat → Nat → Nat) (cyC cyI cyO : ClassId) (ro : Nat → Nat) (hSt : ∀ rho : Nat → Nat → Nat, (∀ c, 36 ≤ c → c < 41 → rho 0 c = ro c) → St0 dC dI cyC cyI cyO rho (fun q => s.heap.size ≤ q) L (fun j => (xs j.toNat).toInt) s)
    (hroA : ∀ c, 36 ≤ c → c < 41 → ¬ s.heap.size ≤ ro c) (hb40 : ro 40 = b) (u : (Nat → Nat → Nat) × Nat × (Nat → Nat)) (h0 : Nat) {H : Heap} {locs : List Loc} {cells slots : Nat} {ls : Array Slot}
    (hP : va_P (dC, dI) vwCl (kW cyC cyI cyO h0 u) H) (hD : va_D (fun q : Nat => s.heap.size ≤ q) (kW cyC cyI cyO h0 u)) (hS : va_S (fun q : Nat => s.heap.size ≤ q) s.heap H locs)
    (hcs : cells + 1000 ≤ 600000) (hss : slots + 64000 ≤ 7302249) (hl : lv_has ls 18 [(1, .ref h0), (0, .ref b)]) :
    W p l e room_1 s m #[Value.ref b] below meth c H locs cells slots (lw_Z below #[Value.ref b] s) (F0 m 8 ls []) := by
  obtain ⟨hx, hb, hr, hml, hown, hts0, hX, hbl, hlocks, hgv⟩ := id C0
  have hgw : ∀ w ∈ GW, w.before #[Value.ref b] s = true := fun w hw => hts0 w (List.mem_filter.mp hw).1
  have hPw : va_P (dC, dI) vwCl (wL 0 cyC cyI cyO (rhoA u ro h0) (SL L xs)) H := P_mem.mpr (fun q hq => P_mem.mp hP q (wL_in hq))
  have hDw : va_D (fun q : Nat => s.heap.size ≤ q) (wL 0 cyC cyI cyO (rhoA u ro h0) (SL L xs)) := by
    refine D_nd.mpr ⟨?_, fun q hq => (D_nd.mp hD).2 q (wL_in hq)⟩
    have h1 := (D_nd.mp hD).1
    rw [kW_fst (ro := ro)] at h1
    have e1 : (wL 0 cyC cyI cyO (rhoA u ro h0) (SL L xs)).map Prod.fst = (ids 0).map (fun q => rhoA u ro h0 q.1 q.2) := by
      unfold wL
      rw [List.map_map]
      rfl
    rw [e1]
    exact ((idsP_perm.map _).nodup_iff).mpr h1
  have hrho : ∀ c, 36 ≤ c → c < 41 → rhoA u ro h0 0 c = ro c := by
    intro c c1 c2
    unfold rhoA
    rw [if_neg (by omega), if_neg (by omega), if_neg (by omega), if_neg (by omega)]
  have hG := hpure (l, dC, dI, cyC, cyI, cyO, (fun q : Nat => s.heap.size ≤ q), b, L, xs) L xs rfl rfl hL hL (rhoA u ro h0) SL_St (fun i v hv => by
    match i, hv with
    | 0, hv => cases hv; exact Or.inr ⟨by decide, by decide, rfl⟩
    | 1, hv => cases hv; exact Or.inl ⟨by decide, by decide⟩
    | i + 2, hv =>
      rw [List.getElem?_cons_succ, List.getElem?_cons_succ, List.getElem?_replicate] at hv
      split at hv <;> simp at hv) (fun v hv => by cases hv)
  refine hG p e room_1 s m _ below meth c H locs cells slots _ ls ⟨hx, hb, hml, hown, hgw, hSt _ hrho, Nat.le_of_ble_eq_true rfl, Nat.le_of_ble_eq_true rfl, by show cells ≤ 600000; omega, by show slots ≤ 7302249; omega, fun c c1 c2 => by rw [hrho c c1 c2]; exact hroA c c1 c2, wL_D _ hDw⟩ hPw hS ⟨rfl, ?_⟩ ⟨rfl, rfl, rfl, C0, rfl, hcs, by omega⟩
  have e40 : rhoA u ro h0 0 40 = b := by rw [hrho 40 (by decide) (by decide), hb40]
  have h2 := lv_sub hl [1, 0] rfl
  rw [← e40] at h2
  exact h2
end GO
end
section
/-! PURE: rows, counts, bits, loops -/
def up (f : Int → Int) (i v : Int) : Int → Int := fun j => if j = i then v else f j
set_option maxHeartbeats 4000000 in
set_option maxRecDepth 100000 in
theorem up_eq {f : Int → Int} {i v j : Int} (h : j = i) : up f i v j = v := if_pos h
set_option maxHeartbeats 4000000 in
set_option maxRecDepth 100000 in
theorem up_ne {f : Int → Int} {i v j : Int} (h : ¬ j = i) : up f i v j = f j := if_neg h
/- a row of the heap put -/
def hr (S : Hp) (k c : Nat) (f : Int → Int) : Hp := fun k' c' => if k' = k ∧ c' = c then f else S k' c'
set_option maxHeartbeats 4000000 in
set_option maxRecDepth 100000 in
theorem hu_hr (S : Hp) (k c : Nat) (j v : Int) : hu S k c j v = hr S k c (up (S k c) j v) := by
  funext k' c' j'
  unfold hu hr up
  by_cases h : k' = k ∧ c' = c
  · obtain ⟨rfl, rfl⟩ := h
    by_cases h2 : j' = j <;> simp [h2]
  · rw [if_neg (fun q => h ⟨q.1, q.2.1⟩), if_neg h]
set_option maxHeartbeats 4000000 in
set_option maxRecDepth 100000 in
theorem hr_at (S : Hp) (k c : Nat) (f : Int → Int) : hr S k c f k c = f := by unfold hr; rw [if_pos ⟨rfl, rfl⟩]
set_option maxHeartbeats 4000000 in
set_option maxRecDepth 100000 in
theorem hr_nc {S : Hp} {k c k' c' : Nat} {f : Int → Int} (h : ¬ c' = c) : hr S k c f k' c' = S k' c' := by unfold hr; rw [if_neg (fun q => h q.2)]
set_option maxHeartbeats 4000000 in
set_option maxRecDepth 100000 in
theorem hr_nk {S : Hp} {k c k' c' : Nat} {f : Int → Int} (h : ¬ k' = k) : hr S k c f k' c' = S k' c' := by unfold hr; rw [if_neg (fun q => h q.1)]
set_option maxHeartbeats 4000000 in
set_option maxRecDepth 100000 in
theorem hr_hr (S : Hp) (k c : Nat) (f g : Int → Int) : hr (hr S k c f) k c g = hr S k c g := by
  funext k' c'
  unfold hr
  split <;> rfl
set_option maxHeartbeats 4000000 in
set_option maxRecDepth 100000 in
theorem hr_id (S : Hp) (k c : Nat) : hr S k c (S k c) = S := by
  funext k' c'
  unfold hr
  split
  · next h => rw [h.1, h.2]
  · rfl
/- a counting -/
def ct (p : Nat → Bool) : Nat → Int
  | 0 => 0
  | n + 1 => ct p n + (if p n = true then 1 else 0)
set_option maxHeartbeats 4000000 in
set_option maxRecDepth 100000 in
theorem ct_s (p : Nat → Bool) (n : Nat) : ct p (n + 1) = ct p n + (if p n = true then 1 else 0) := rfl
set_option maxHeartbeats 4000000 in
set_option maxRecDepth 100000 in
theorem ct_le (p : Nat → Bool) : ∀ n, 0 ≤ ct p n ∧ ct p n ≤ n
  | 0 => ⟨Int.le_refl _, Int.le_refl _⟩
  | n + 1 => by
    have h := ct_le p n
    rw [ct_s]
    split <;> omega
set_option maxHeartbeats 4000000 in
set_option maxRecDepth 100000 in
theorem ct_congr {p q : Nat → Bool} : ∀ {n : Nat}, (∀ k, k < n → p k = q k) → ct p n = ct q n
  | 0, _ => rfl
  | n + 1, h => by rw [ct_s, ct_s, ct_congr (fun k hk => h k (by omega)), h n (by omega)]
set_option maxHeartbeats 4000000 in
set_option maxRecDepth 100000 in
theorem ct_upd (p : Nat → Bool) (b : Bool) {i : Nat} : ∀ {n : Nat}, i < n → ct (fun k => if k = i then b else p k) n = ct p n - (if p i = true then 1 else 0) + (if b = true then 1 else 0)
  | 0, h => absurd h (Nat.not_lt_zero i)
  | n + 1, h => by
    rw [ct_s, ct_s]
    rcases Nat.lt_or_ge i n with q | q
    · rw [ct_upd p b q]
      have hn : ¬ n = i := by omega
      simp only [hn, if_false]
      omega
    · obtain rfl : i = n := by omega
      rw [ct_congr (q := p) (fun k hk => by
        have hn : ¬ k = i := by omega
        simp only [hn, if_false])]
      simp only [if_true]
      omega
set_option maxHeartbeats 4000000 in
set_option maxRecDepth 100000 in
theorem ct_mono {p q : Nat → Bool} : ∀ {n : Nat}, (∀ k, k < n → p k = true → q k = true) → ct p n ≤ ct q n
  | 0, _ => Int.le_refl _
  | n + 1, h => by
    have h1 := ct_mono (p := p) (q := q) (n := n) (fun k hk => h k (by omega))
    have h2 := h n (by omega)
    rw [ct_s, ct_s]
    by_cases h3 : p n = true
    · rw [if_pos h3, if_pos (h2 h3)]; omega
    · rw [if_neg h3]; split <;> omega
set_option maxHeartbeats 4000000 in
set_option maxRecDepth 100000 in
theorem ct_pos {p : Nat → Bool} {i n : Nat} (hi : i < n) (h : p i = true) : 0 < ct p n := by
  have h1 := ct_upd p false hi
  have h2 := (ct_le (fun k => if k = i then false else p k) n).1
  rw [h, h1] at *
  simp only [if_true] at h2
  simp at h2
  omega
/- a sum -/
def sm (f : Nat → Int) : Nat → Int
  | 0 => 0
  | n + 1 => sm f n + f n
set_option maxHeartbeats 4000000 in
set_option maxRecDepth 100000 in
theorem sm_s (f : Nat → Int) (n : Nat) : sm f (n + 1) = sm f n + f n := rfl
set_option maxHeartbeats 4000000 in
set_option maxRecDepth 100000 in
theorem sm_congr {f g : Nat → Int} : ∀ {n : Nat}, (∀ k, k < n → f k = g k) → sm f n = sm g n
  | 0, _ => rfl
  | n + 1, h => by rw [sm_s, sm_s, sm_congr (fun k hk => h k (by omega)), h n (by omega)]
set_option maxHeartbeats 4000000 in
set_option maxRecDepth 100000 in
theorem sm_upd (f : Nat → Int) (v : Int) {i : Nat} : ∀ {n : Nat}, i < n → sm (fun k => if k = i then v else f k) n = sm f n - f i + v
  | 0, h => absurd h (Nat.not_lt_zero i)
  | n + 1, h => by
    rw [sm_s, sm_s]
    rcases Nat.lt_or_ge i n with q | q
    · rw [sm_upd f v q]
      have hn : ¬ n = i := by omega
      simp only [hn, if_false]
      omega
    · obtain rfl : i = n := by omega
      rw [sm_congr (g := f) (fun k hk => by
        have hn : ¬ k = i := by omega
        simp only [hn, if_false])]
      simp only [if_true]
      omega
/- a counted loop of the small machine -/
set_option maxHeartbeats 4000000 in
set_option maxRecDepth 100000 in
theorem wp_loop {mi pc : Nat} {Q : Option MV → Hp → Prop} (Lf : Nat → Lc) (Sf : Nat → Hp) (N : Nat) (hs : ∀ j, j < N → Wp mi pc (Lf (j + 1)) [] (Sf (j + 1)) Q → Wp mi pc (Lf j) [] (Sf j) Q) (he : Wp mi pc (Lf N) [] (Sf N) Q) : ∀ j, j ≤ N → Wp mi pc (Lf j) [] (Sf j) Q := by
  intro j hj
  obtain ⟨d, rfl⟩ : ∃ d, N = j + d := ⟨N - j, by omega⟩
  induction d generalizing j with
  | zero => exact he
  | succ d ih =>
    refine hs j (by omega) ?_
    have e : j + (d + 1) = j + 1 + d := by omega
    rw [e] at hs he
    exact ih (j + 1) hs he (by omega)
/- the end is one: what holds of it with one Q says all -/
set_option maxHeartbeats 4000000 in
set_option maxRecDepth 100000 in
theorem wp_det {mi pc : Nat} {L : Lc} {st : List MV} {S S' : Hp} {v : Option MV} {Q : Option MV → Hp → Prop} (h : Wp mi pc L st S (fun r T => r = v ∧ T = S')) (hq : Q v S') : Wp mi pc L st S Q := h.mono (fun r T e => by rw [e.1, e.2]; exact hq)
set_option maxHeartbeats 4000000 in
set_option maxRecDepth 100000 in
theorem iT {c : Prop} {d : Decidable c} {P R : Prop} (hc : c) (h : P) : @ite _ c d P R := by rw [if_pos hc]; exact h
set_option maxHeartbeats 4000000 in
set_option maxRecDepth 100000 in
theorem iF {c : Prop} {d : Decidable c} {P R : Prop} (hc : ¬ c) (h : R) : @ite _ c d P R := by rw [if_neg hc]; exact h
set_option maxHeartbeats 4000000 in
set_option maxRecDepth 100000 in
theorem iB {c : Prop} {d : Decidable c} {P R : Prop} (h1 : c → P) (h2 : ¬ c → R) : @ite _ c d P R := by
  by_cases hc : c
  · rw [if_pos hc]; exact h1 hc
  · rw [if_neg hc]; exact h2 hc
set_option maxHeartbeats 4000000 in
set_option maxRecDepth 100000 in
theorem bA (a b : Nat) (ha : a < 2147483648) : bAnd a b = ((a &&& b : Nat) : Int) := by
  unfold bAnd
  rw [oi_nI, oi_nI]
  have e : nI a &&& nI b = nI (a &&& b) := by
    apply Int32.toBitVec_inj.1
    show BitVec.ofNat 32 a &&& BitVec.ofNat 32 b = BitVec.ofNat 32 (a &&& b)
    apply BitVec.eq_of_getLsbD_eq
    intro i hi
    simp [hi]
  rw [e, nI_toInt (Nat.lt_of_le_of_lt Nat.and_le_left ha)]
set_option maxHeartbeats 4000000 in
set_option maxRecDepth 100000 in
theorem bO (a b : Nat) (ha : a < 2147483648) (hb : b < 2147483648) : bOr a b = ((a ||| b : Nat) : Int) := by
  unfold bOr
  rw [oi_nI, oi_nI]
  have e : nI a ||| nI b = nI (a ||| b) := by
    apply Int32.toBitVec_inj.1
    show BitVec.ofNat 32 a ||| BitVec.ofNat 32 b = BitVec.ofNat 32 (a ||| b)
    apply BitVec.eq_of_getLsbD_eq
    intro i hi
    simp [hi]
  rw [e, nI_toInt (Nat.or_lt_two_pow (n := 31) ha hb)]
set_option maxHeartbeats 4000000 in
set_option maxRecDepth 100000 in
theorem bX (a b : Nat) (ha : a < 2147483648) (hb : b < 2147483648) : bXor a b = ((a ^^^ b : Nat) : Int) := by
  unfold bXor
  rw [oi_nI, oi_nI]
  have e : nI a ^^^ nI b = nI (a ^^^ b) := by
    apply Int32.toBitVec_inj.1
    show BitVec.ofNat 32 a ^^^ BitVec.ofNat 32 b = BitVec.ofNat 32 (a ^^^ b)
    apply BitVec.eq_of_getLsbD_eq
    intro i hi
    simp [hi]
  rw [e, nI_toInt (Nat.xor_lt_two_pow (n := 31) ha hb)]
/- the last bit -/
set_option maxHeartbeats 4000000 in
set_option maxRecDepth 100000 in
theorem and1 {z : Int} (h : 0 ≤ z) (h2 : z < 2147483648) : bAnd z 1 = z % 2 := by
  obtain ⟨a, rfl⟩ : ∃ a : Nat, z = a := ⟨z.toNat, by omega⟩
  have e := bA a 1 (by omega)
  rw [Nat.and_one_is_mod] at e
  rw [show (1 : Int) = ((1 : Nat) : Int) from rfl, e]
  omega
/- a call -/
def Wc (m : Nat) (as : List MV) (S : Hp) (Q : Option MV → Hp → Prop) : Prop := Wp m 0 (ini m as) [] S Q
set_option maxHeartbeats 4000000 in
set_option maxRecDepth 100000 in
theorem vK_Wc (F : Nat → Nat → Lc → List MV → Hp → (Option MV → Hp → Prop) → Prop) (nl : Nat → Bool) (mi : Nat) (Q : Option MV → Hp → Prop) (pc : Nat) (L : Lc) (st : List MV) (S : Hp) (m : Nat) (as : List MV) : vK F nl mi Q (rC m as pc L st S) = if nl m = true then F m 0 (ini m as) [] S (vQ F mi pc L st Q) else Wc m as S (vQ F mi pc L st Q) := rfl
set_option maxHeartbeats 4000000 in
set_option maxRecDepth 100000 in
theorem Wc_eq {m : Nat} {as : List MV} {S S' : Hp} {v : Option MV} (h : Wc m as S (fun r T => r = v ∧ T = S')) (Q : Option MV → Hp → Prop) : Wc m as S Q = Q v S' := by
  refine propext ⟨fun hq => ?_, fun hq => Wp.mono h (fun r T e => by rw [e.1, e.2]; exact hq)⟩
  obtain ⟨n, r, T, h1, rfl, rfl⟩ := h
  obtain ⟨k, r2, T2, h2, h3⟩ := hq
  have e1 := ex_le (Nat.le_max_left n k) h1
  have e2 := ex_le (Nat.le_max_right n k) h2
  rw [e1] at e2
  cases e2
  exact h3
set_option maxHeartbeats 4000000 in
set_option maxRecDepth 100000 in
theorem vO {F : Nat → Nat → Lc → List MV → Hp → (Option MV → Hp → Prop) → Prop} {nl : Nat → Bool} {mi : Nat} {Q : Option MV → Hp → Prop} {c : Prop} {d : Decidable c} {a : Option Rs} (hc : c) (h : vK F nl mi Q a) : vK F nl mi Q (@ite _ c d a none) := by
  rw [if_pos hc]; exact h
set_option maxHeartbeats 4000000 in
set_option maxRecDepth 100000 in
theorem vI {F : Nat → Nat → Lc → List MV → Hp → (Option MV → Hp → Prop) → Prop} {nl : Nat → Bool} {mi : Nat} {Q : Option MV → Hp → Prop} {c : Prop} {d : Decidable c} {a b : Option Rs} (h1 : c → vK F nl mi Q a) (h2 : ¬ c → vK F nl mi Q b) : vK F nl mi Q (@ite _ c d a b) := by
  by_cases hc : c
  · rw [if_pos hc]; exact h1 hc
  · rw [if_neg hc]; exact h2 hc
set_option maxHeartbeats 4000000 in
set_option maxRecDepth 100000 in
theorem wp_for {mi pc : Nat} {Q : Option MV → Hp → Prop} {L : Lc} {S : Hp} (Lf : Nat → Lc) (Sf : Nat → Hp) (N : Nat) (hL : L = Lf 0) (hS : S = Sf 0) (hs : ∀ j, j < N → Wp mi pc (Lf (j + 1)) [] (Sf (j + 1)) Q → Wp mi pc (Lf j) [] (Sf j) Q) (he : Wp mi pc (Lf N) [] (Sf N) Q) : Wp mi pc L [] S Q := by
  rw [hL, hS]
  exact wp_loop Lf Sf N hs he 0 (Nat.zero_le N)
section WG
variable (F : Nat → Nat → Lc → List MV → Hp → (Option MV → Hp → Prop) → Prop) (ct : Nat → Nat → Bool) (nl : Nat → Bool) (n mi : Nat) (Q : Option MV → Hp → Prop) (pc : Nat) (L : Lc) (st : List MV) (S : Hp)
set_option maxHeartbeats 4000000 in
set_option maxRecDepth 100000 in
theorem wg_0 : vg ct nl 0 mi pc L st S Q = Wp mi pc L st S Q := propext ⟨fun h => h, fun h => h⟩
set_option maxHeartbeats 4000000 in
set_option maxRecDepth 100000 in
theorem wg_s : vg ct nl (n + 1) mi pc L st S Q = if ct mi pc = true then Wp mi pc L st S Q else vK (vg ct nl n) nl mi Q (stR mi pc L st S) := propext ⟨fun h => h, fun h => h⟩
set_option maxHeartbeats 4000000 in
set_option maxRecDepth 100000 in
theorem wQ_some (v : MV) : vQ F mi pc L st Q (some v) S = F mi pc L (v :: st) S Q := propext ⟨fun h => h, fun h => h⟩
set_option maxHeartbeats 4000000 in
set_option maxRecDepth 100000 in
theorem wQ_none : vQ F mi pc L st Q none S = F mi pc L st S Q := propext ⟨fun h => h, fun h => h⟩
set_option maxHeartbeats 4000000 in
set_option maxRecDepth 100000 in
theorem wK_none : vK F nl mi Q none = False := propext ⟨fun h => h, fun h => h⟩
set_option maxHeartbeats 4000000 in
set_option maxRecDepth 100000 in
theorem wK_N : vK F nl mi Q (rN pc L st S) = F mi pc L st S Q := propext ⟨fun h => h, fun h => h⟩
set_option maxHeartbeats 4000000 in
set_option maxRecDepth 100000 in
theorem wK_C (m : Nat) (as : List MV) : vK F nl mi Q (rC m as pc L st S) = if nl m = true then F m 0 (ini m as) [] S (vQ F mi pc L st Q) else Wc m as S (vQ F mi pc L st Q) := propext ⟨fun h => h, fun h => h⟩
set_option maxHeartbeats 4000000 in
set_option maxRecDepth 100000 in
theorem wK_R (v : Option MV) : vK F nl mi Q (rR v S) = Q v S := propext ⟨fun h => h, fun h => h⟩
end WG
set_option maxHeartbeats 4000000 in
set_option maxRecDepth 100000 in
theorem vT {F : Nat → Nat → Lc → List MV → Hp → (Option MV → Hp → Prop) → Prop} {nl : Nat → Bool} {mi : Nat} {Q : Option MV → Hp → Prop} {c : Prop} {d : Decidable c} {a b : Option Rs} (hc : c) (h : vK F nl mi Q a) : vK F nl mi Q (@ite _ c d a b) := by
  rw [if_pos hc]; exact h
set_option maxHeartbeats 4000000 in
set_option maxRecDepth 100000 in
theorem vF {F : Nat → Nat → Lc → List MV → Hp → (Option MV → Hp → Prop) → Prop} {nl : Nat → Bool} {mi : Nat} {Q : Option MV → Hp → Prop} {c : Prop} {d : Decidable c} {a b : Option Rs} (hc : ¬ c) (h : vK F nl mi Q b) : vK F nl mi Q (@ite _ c d a b) := by
  rw [if_neg hc]; exact h
end
